/** An object with something of everything in it, and all that can be seen of such an object. */
final class Scene implements Terms {
    private static final int[][] ROW_AND_THING = {{SHEETS, LETTERS}, {DECK, CARD}, {GOLD_DECK, GOLD_CARD}, {TRAY, TOKEN},
        {ALBUM, DECK}, {GOLD_ALBUM, GOLD_DECK}};

    /** One ITEM of each KIND with 3 PLACES, and TOKENS up to 60 if it is to be full; ROOM 1 is full of DESKS. */
    static MailRooms furnished(boolean full) {
        MailRooms x = Checks.oneOfEach(3);
        while (full && x.count(0) < 60) {
            x.make(TOKEN, 0);
        }
        for (int row = LETTERS; row <= SIGNS; row++) {
            x.put(row, 1, 1);
        }
        for (int[] pair : ROW_AND_THING) {
            x.lay(pair[0], 1, pair[1]);
        }
        x.desk(0, TRAY, SPLIT, true);
        x.desk(0, SIGNS, COUNT, false);
        x.desk(1, GOLD_CARD, COUNT, true);
        x.desk(1, CARD, STAMP, false);
        x.desk(1, STAMPED, KEEP, true);
        x.desk(1, DECK, TURN, true);
        x.hand(DECK, 0);
        x.hand(SIGNS, 0);
        x.hand(TOKEN, 1);
        x.hand(GOLD_CARD, 1);
        return x;
    }

    /** Answers that tell the state, but for why and how often calls were refused. */
    static int[] seen(MailRooms x) {
        Answers all = new Answers();
        all.add(x.out());
        all.add(x.count(0));
        all.add(x.count(4));
        for (int room = 0; room <= 7; room++) {
            for (int desk = 0; desk <= 3 && x.told(room, desk, 0) != BAD; desk++) {
                for (int what = 0; what <= 4; what++) {
                    all.add(x.told(room, desk, what));
                }
            }
        }
        for (int kind = LETTERS; kind <= GOLD_ALBUM; kind++) {
            all.add(x.is(kind, kind));
            if (Terms.isPiece(kind)) {
                all.add(x.stamps(kind));
            }
            for (int i = 0; i < 3 && !Terms.isPiece(kind); i++) {
                all.add(Terms.isNumberRow(kind) ? x.get(kind, i) : x.at(kind, i));
            }
        }
        return all.taken();
    }

    /** What the DESKS do with each ITEM: so their FORMS, ACTS and whether they ASK are seen, too. */
    static int[] handed(MailRooms x) {
        Answers all = new Answers();
        for (int room = 0; room <= 2; room++) {
            for (int kind = LETTERS; kind <= GOLD_ALBUM; kind++) {
                all.add(x.hand(kind, room));
                all.add(x.out());
            }
        }
        return all.taken();
    }

    private static final class Answers {
        private final int[] answers = new int[400];
        private int many = 0;

        void add(int answer) {
            answers[many++] = answer;
        }

        int[] taken() {
            return java.util.Arrays.copyOf(answers, many);
        }
    }
}
