/** Mail rooms, one behind the other, whose desks work on the items that are handed to them. */
public final class MailRooms {
    public static final int NONE = -1, BAD = -2, FULL = -3, CAST = -4, INDEX = -5, STORE = -6;

    private static final int LETTERS = 0, TALLIES = 1, LENGTHS = 2, SIGNS = 3, SHEETS = 4;
    private static final int CARD = 5, GOLD_CARD = 6, TOKEN = 7;
    private static final int DECK = 8, GOLD_DECK = 9, TRAY = 10, ALBUM = 11, GOLD_ALBUM = 12;
    private static final int STAMPED = 13;

    private static final int COUNT = 0, TURN = 1, STAMP = 2, SPLIT = 3, KEEP = 4;

    private static final int MOST_ITEMS = 60, MOST_PLACES = 3, ROOMS = 8, MOST_DESKS = 4;

    private static final long LEAST_INT = -0x80000000L, GREATEST_INT = 0x7fffffffL;

    /** An album, its decks, their cards: nothing lies deeper than that. */
    private static final int LEVELS = 3;

    private final Item[] items = new Item[MOST_ITEMS];
    private final Room[] rooms = new Room[ROOMS];
    private int itemCount = 0;
    private int handings = 0;
    private int works = 0;
    private int cameOut = NONE;
    private int refusal = 0;
    private int casts = 0;
    private int indexes = 0;
    private int stores = 0;
    private int givenBack = 0;

    public MailRooms() {
        for (int r = 0; r < ROOMS; r++) {
            rooms[r] = new Room();
        }
    }

    public int make(int kind, int n) {
        if (kind < LETTERS || kind > GOLD_ALBUM) {
            return refuse(BAD);
        }
        if (!isPiece(kind) && (n < 0 || n > MOST_PLACES)) {
            return refuse(BAD);
        }
        if (itemCount >= MOST_ITEMS) {
            return refuse(FULL);
        }
        int number = itemCount;
        items[number] = newItem(number, kind, n);
        itemCount++;
        return accept(number);
    }

    public int put(int item, int i, int v) {
        NumberRow row = numberRow(item, i);
        if (row == null) {
            return refusal;
        }
        row.write(i, v);
        return accept(1);
    }

    public int get(int item, int i) {
        NumberRow row = numberRow(item, i);
        return row == null ? 0 : accept(row.read(i));
    }

    public int lay(int item, int i, int other) {
        Item found = findItem(item);
        Item thing = findItem(other);
        if (found == null || (thing == null && other != NONE)) {
            return refuse(BAD);
        }
        if (found instanceof ThingRow row && row.takes(thing)) {
            if (!row.hasPlace(i)) {
                return refuse(INDEX);
            }
            if (!row.canHold(thing)) {
                return refuse(STORE);
            }
            row.things[i] = thing;
            return accept(1);
        }
        return refuse(CAST);
    }

    public int at(int item, int i) {
        Item found = findItem(item);
        if (found == null) {
            return refuse(BAD);
        }
        if (found instanceof ThingRow row) {
            return row.hasPlace(i) ? accept(numberOf(row.things[i])) : refuse(INDEX);
        }
        return refuse(CAST);
    }

    public int is(int item, int form) {
        Item found = findItem(item);
        if (found == null || !isForm(form)) {
            return refuse(BAD);
        }
        return accept(found.isOf(form) ? 1 : 0);
    }

    public int stamps(int item) {
        Item found = findItem(item);
        if (found instanceof Piece piece) {
            return accept(piece.stampCount);
        }
        refuse(found == null ? BAD : CAST);
        return 0;
    }

    public int desk(int room, int form, int act, boolean asks) {
        Room found = findRoom(room);
        if (found == null || !isForm(form) || !isAct(act)) {
            return refuse(BAD);
        }
        if (found.deskCount >= MOST_DESKS) {
            return refuse(FULL);
        }
        int number = found.deskCount;
        found.desks[number] = new Desk(form, act, asks);
        found.deskCount++;
        return accept(number);
    }

    public int change(int room, int desk, int form, int act, boolean asks) {
        Desk found = findDesk(room, desk);
        if (found == null || !isForm(form) || !isAct(act)) {
            return refuse(BAD);
        }
        found.form = form;
        found.act = act;
        found.asks = asks;
        return accept(1);
    }

    public int hand(int item, int room) {
        Item found = findItem(item);
        if (found == null || findRoom(room) == null) {
            return refuse(BAD);
        }
        handings++;
        works = 0;
        cameOut = numberOf(pass(found, room));
        return accept(works);
    }

    public int out() {
        return cameOut;
    }

    public int told(int room, int desk, int what) {
        Desk found = findDesk(room, desk);
        if (found == null) {
            return BAD;
        }
        switch (what) {
            case 0: return found.tally;
            case 1: return numberOf(found.held);
            case 2: return found.worked;
            case 3: return found.givenBackCount;
            case 4: return numberOf(found.latestGivenBack);
            default: return BAD;
        }
    }

    public int count(int what) {
        switch (what) {
            case 0: return itemCount;
            case 1: return casts;
            case 2: return indexes;
            case 3: return stores;
            case 4: return givenBack;
            default: return BAD;
        }
    }

    public int refused() {
        return refusal;
    }

    private int accept(int answer) {
        refusal = 0;
        return answer;
    }

    private int refuse(int why) {
        refusal = why;
        if (why == CAST) {
            casts++;
        } else if (why == INDEX) {
            indexes++;
        } else if (why == STORE) {
            stores++;
        }
        return why;
    }

    /** The row that has such a PLACE of numbers; null: there is none, and the call is refused. */
    private NumberRow numberRow(int item, int i) {
        Item found = findItem(item);
        if (found instanceof NumberRow row) {
            if (row.hasPlace(i)) {
                return row;
            }
            refuse(INDEX);
            return null;
        }
        refuse(found == null ? BAD : CAST);
        return null;
    }

    private static boolean isForm(int form) {
        return form >= LETTERS && form <= STAMPED;
    }

    private static boolean isAct(int act) {
        return act >= COUNT && act <= KEEP;
    }

    private static boolean isPiece(int kind) {
        return kind >= CARD && kind <= TOKEN;
    }

    private static Item newItem(int number, int kind, int n) {
        if (isPiece(kind)) {
            return new Piece(number, kind);
        }
        return kind <= SIGNS ? new NumberRow(number, kind, n) : new ThingRow(number, kind, n);
    }

    /** null: there is no such ITEM. */
    private Item findItem(int number) {
        return number >= 0 && number < MOST_ITEMS ? items[number] : null;
    }

    /** null: there is no such ROOM. */
    private Room findRoom(int number) {
        return number >= 0 && number < ROOMS ? rooms[number] : null;
    }

    /** null: there is no such ROOM, or it has no such DESK. */
    private Desk findDesk(int room, int desk) {
        Room found = findRoom(room);
        return found == null ? null : found.findDesk(desk);
    }

    private static int numberOf(Item item) {
        return item == null ? NONE : item.number;
    }

    /** The ITEM that comes out behind the last DESK; null: nobody. */
    private Item pass(Item item, int roomNumber) {
        Room room = findRoom(roomNumber);
        // Behind the last ROOM nothing is done: this is also where the recursion of SPLIT ends.
        if (room == null) {
            return null;
        }
        Item going = item;
        for (int d = 0; d < MOST_DESKS; d++) {
            Desk desk = room.findDesk(d);
            if (desk != null && going != null) {
                going = meet(desk, going, roomNumber);
            }
        }
        return going;
    }

    /** What goes on from the DESK; null: nobody. */
    private Item meet(Desk desk, Item item, int roomNumber) {
        if (item.isOf(desk.form)) {
            return work(desk, item, roomNumber);
        }
        if (desk.asks || desk.asksInHanding == handings) {
            return item;
        }
        desk.giveBack(item, handings);
        givenBack++;
        return null;
    }

    private Item work(Desk desk, Item item, int roomNumber) {
        works++;
        desk.worked++;
        switch (desk.act) {
            case COUNT:
                desk.tally += item.places();
                break;
            case TURN:
                item.turn();
                break;
            case STAMP:
                item.grow(LEVELS);
                break;
            case SPLIT:
                split(item, roomNumber + 1);
                break;
            case KEEP:
                return desk.exchange(item);
            default:
                break;
        }
        return item;
    }

    private void split(Item item, int nextRoom) {
        if (item instanceof ThingRow row) {
            // Each PLACE is read when its turn comes: a DESK further on may let go of
            // this very row, which it had kept, and have it turned meanwhile.
            for (int i = 0; i < row.things.length; i++) {
                Item thing = row.things[i];
                if (thing != null) {
                    pass(thing, nextRoom);
                }
            }
        }
    }

    private abstract static class Item {
        final int number;
        final int kind;

        Item(int number, int kind) {
            this.number = number;
            this.kind = kind;
        }

        /** How many PLACES a row has; 1 of what is no row. */
        abstract int places();

        abstract void turn();

        /** STAMPS this and what lies in it, as many levels deep as told. */
        abstract void grow(int levels);

        final boolean isOf(int form) {
            switch (form) {
                case CARD: return kind == CARD || kind == GOLD_CARD;
                case DECK: return kind == DECK || kind == GOLD_DECK;
                case TRAY: return kind == TRAY || kind == DECK || kind == GOLD_DECK;
                case ALBUM: return kind == ALBUM || kind == GOLD_ALBUM;
                case STAMPED: return isPiece(kind);
                default: return kind == form;
            }
        }
    }

    /** LETTERS, TALLIES, LENGTHS or SIGNS. */
    private static final class NumberRow extends Item {
        /** LENGTHS stand here in eighths: put(), get() and STAMP deal in whole ones of these. */
        private final long[] numbers;

        NumberRow(int number, int kind, int n) {
            super(number, kind);
            numbers = new long[n];
        }

        boolean hasPlace(int i) {
            return i >= 0 && i < numbers.length;
        }

        void write(int i, int v) {
            numbers[i] = fit(v);
        }

        int read(int i) {
            return (int) Math.max(LEAST_INT, Math.min(numbers[i], GREATEST_INT));
        }

        int places() {
            return numbers.length;
        }

        void turn() {
            for (int i = 0, j = numbers.length - 1; i < j; i++, j--) {
                long first = numbers[i];
                numbers[i] = numbers[j];
                numbers[j] = first;
            }
        }

        void grow(int levels) {
            for (int i = 0; i < numbers.length; i++) {
                numbers[i] = kind == SIGNS ? 1 - numbers[i] : fit(numbers[i] + 1);
            }
        }

        private long fit(long v) {
            switch (kind) {
                case LETTERS: return (char) v;
                case TALLIES: return (short) v;
                case SIGNS: return v != 0 ? 1 : 0;
                default: return v;
            }
        }
    }

    /** SHEETS, a DECK, a TRAY or an ALBUM, gold or not; null is NOTHING. */
    private static final class ThingRow extends Item {
        private final Item[] things;

        ThingRow(int number, int kind, int n) {
            super(number, kind);
            things = new Item[n];
        }

        boolean hasPlace(int i) {
            return i >= 0 && i < things.length;
        }

        /** Whether lay() lets this, or NOTHING, through as the FORM told for such a row. */
        boolean takes(Item thing) {
            return thing == null || thing.isOf(takenForm());
        }

        /** Whether the row itself can hold this: a gold one is narrower than what lay() asks. */
        boolean canHold(Item thing) {
            if (thing == null) {
                return true;
            }
            switch (kind) {
                case GOLD_DECK: return thing.kind == GOLD_CARD;
                case GOLD_ALBUM: return thing.kind == GOLD_DECK;
                default: return thing.isOf(takenForm());
            }
        }

        private int takenForm() {
            switch (kind) {
                case SHEETS: return LETTERS;
                case DECK: return CARD;
                case GOLD_DECK: return CARD;
                case TRAY: return STAMPED;
                default: return DECK;
            }
        }

        int places() {
            return things.length;
        }

        void turn() {
            for (int i = 0, j = things.length - 1; i < j; i++, j--) {
                Item first = things[i];
                things[i] = things[j];
                things[j] = first;
            }
        }

        void grow(int levels) {
            if (levels <= 1) {
                return;
            }
            for (int i = 0; i < things.length; i++) {
                Item thing = things[i];
                if (thing != null) {
                    thing.grow(levels - 1);
                }
            }
        }
    }

    /** A CARD, a GOLD CARD or a TOKEN. */
    private static final class Piece extends Item {
        private int stampCount = 0;

        Piece(int number, int kind) {
            super(number, kind);
        }

        int places() {
            return 1;
        }

        void turn() {
            // What is no row has no PLACES to turn round.
        }

        void grow(int levels) {
            stampCount += kind == GOLD_CARD ? 2 : 1;
        }
    }

    private static final class Room {
        private final Desk[] desks = new Desk[MOST_DESKS];
        private int deskCount = 0;

        /** null: there is no such DESK. */
        private Desk findDesk(int number) {
            return number >= 0 && number < MOST_DESKS ? desks[number] : null;
        }
    }

    private static final class Desk {
        private int form;
        private int act;
        private boolean asks;
        private int tally = 0;
        private int worked = 0;
        private Item held = null;
        private int givenBackCount = 0;
        private Item latestGivenBack = null;
        /** The call of hand() for whose rest the DESK ASKS; 0: none. */
        private int asksInHanding = 0;

        private Desk(int form, int act, boolean asks) {
            this.form = form;
            this.act = act;
            this.asks = asks;
        }

        private void giveBack(Item item, int handing) {
            givenBackCount++;
            latestGivenBack = item;
            asksInHanding = handing;
        }

        /** Holds the ITEM; what it held ahead of that (null: NOTHING). */
        private Item exchange(Item item) {
            Item before = held;
            held = item;
            return before;
        }
    }
}
