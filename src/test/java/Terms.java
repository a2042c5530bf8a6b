/** The document's names for its numbers. An interface, since a class without a package can't be imported from. */
interface Terms {
    int LETTERS = 0, TALLIES = 1, LENGTHS = 2, SIGNS = 3, SHEETS = 4, CARD = 5, GOLD_CARD = 6, TOKEN = 7;
    int DECK = 8, GOLD_DECK = 9, TRAY = 10, ALBUM = 11, GOLD_ALBUM = 12, STAMPED = 13;

    int COUNT = 0, TURN = 1, STAMP = 2, SPLIT = 3, KEEP = 4;

    int NONE = MailRooms.NONE, BAD = MailRooms.BAD, FULL = MailRooms.FULL;
    int CAST = MailRooms.CAST, INDEX = MailRooms.INDEX, STORE = MailRooms.STORE;

    int LEAST = Integer.MIN_VALUE, GREATEST = Integer.MAX_VALUE;

    static boolean isPiece(int kind) {
        return kind >= CARD && kind <= TOKEN;
    }

    static boolean isNumberRow(int kind) {
        return kind >= LETTERS && kind <= SIGNS;
    }

    static boolean isThingRow(int kind) {
        return kind == SHEETS || kind >= DECK && kind <= GOLD_ALBUM;
    }
}
