/** The boundary cases that promises 1 to 8 name. */
public final class ItemCallsEdgesTest implements Terms {
    public static void main(String[] args) {
        Checks c = new Checks();
        newObject(c);
        makeOfPieces(c);
        makeRefused(c);
        putSixteenBits(c);
        putSigns(c);
        putRefused(c);
        getLengths(c);
        getRefused(c);
        layNothing(c);
        layBad(c);
        layCast(c);
        layIndex(c);
        layStore(c);
        at(c);
        is(c);
        stamps(c);
        c.end();
    }

    private static void newObject(Checks c) {
        c.sentence("No ITEMS, ROOMS without DESKS.");
        MailRooms x = new MailRooms();
        c.due("count(0)", x.count(0), 0);
        c.due("refused()", x.refused(), 0);
        c.due("out()", x.out(), NONE);
        c.due("put(0, 0, 0)", x.put(0, 0, 0), BAD);
        c.due("get(0, 0)", x.get(0, 0), 0);
        c.due("refused()", x.refused(), BAD);
        c.due("lay(0, 0, NONE)", x.lay(0, 0, NONE), BAD);
        c.due("at(0, 0)", x.at(0, 0), BAD);
        c.due("is(0, 0)", x.is(0, 0), BAD);
        c.due("stamps(0)", x.stamps(0), 0);
        c.due("refused()", x.refused(), BAD);
        c.due("hand(0, 0)", x.hand(0, 0), BAD);
        for (int room = 0; room <= 7; room++) {
            for (int desk = 0; desk <= 3; desk++) {
                c.due("told(" + room + ", " + desk + ", 0)", x.told(room, desk, 0), BAD);
                c.due("change(" + room + ", " + desk + ", ..)", x.change(room, desk, 0, 0, true), BAD);
            }
        }
        c.due("the first ITEM", x.make(CARD, 0), 0);
        for (int room = 0; room <= 7; room++) {
            c.due("hand(0, " + room + ")", x.hand(0, room), 0);
            c.due("out()", x.out(), 0);
            c.due("the first DESK", x.desk(room, CARD, STAMP, false), 0);
        }
        c.due("stamps(0)", x.stamps(0), 0);
        c.due("count(0) of another new object", new MailRooms().count(0), 0);
    }

    private static void makeOfPieces(Checks c) {
        c.sentence("n: how many PLACES (of 5 to 7 any number)");
        int[] sizes = {LEAST, -2, -1, 0, 1, 2, 3, 4, 5, 60, 1000000000, GREATEST};
        for (int kind = LETTERS; kind <= GOLD_ALBUM; kind++) {
            MailRooms x = new MailRooms();
            int made = 0;
            for (int n : sizes) {
                boolean asTold = Terms.isPiece(kind) || n >= 0 && n <= 3;
                c.due("make(" + kind + ", " + n + ")", x.make(kind, n), asTold ? made : BAD);
                c.due("refused()", x.refused(), asTold ? 0 : BAD);
                made += asTold ? 1 : 0;
                c.due("count(0)", x.count(0), made);
            }
            for (int number = 0; number < made; number++) {
                c.due("is(" + number + ", " + kind + ")", x.is(number, kind), 1);
            }
        }
    }

    private static void makeRefused(Checks c) {
        c.sentence("An ITEM: its number. .. BAD; FULL.");
        MailRooms x = new MailRooms();
        for (int kind : new int[] {LEAST, -2, -1, 13, 14, GREATEST}) {
            c.due("make(" + kind + ", 0)", x.make(kind, 0), BAD);
            c.due("refused()", x.refused(), BAD);
        }
        c.due("make(0, 0)", x.make(0, 0), 0);
        c.due("make(12, 0)", x.make(12, 0), 1);
        for (int number = 2; number < 60; number++) {
            c.due("make of ITEM " + number, x.make(number % 13, 1), number);
        }
        c.due("make of one too many", x.make(0, 0), FULL);
        c.due("refused()", x.refused(), FULL);
        c.due("make(13, 0)", x.make(13, 0), BAD);
        c.due("refused()", x.refused(), BAD);
    }

    private static void putSixteenBits(Checks c) {
        c.sentence("PLACE i of LETTERS, TALLIES becomes v (its lowest 16 bits)");
        MailRooms x = Checks.oneOfEach(1);
        int[] letters = {-65537, 65535, -65536, 0, -32769, 32767, -32768, 32768, -1, 65535, 0, 0, 1, 1, 32767, 32767,
            32768, 32768, 65534, 65534, 65535, 65535, 65536, 0, 65537, 1, LEAST, 0, GREATEST, 65535};
        int[] tallies = {-65537, -1, -65536, 0, -32769, 32767, -32768, -32768, -1, -1, 0, 0, 1, 1, 32766, 32766,
            32767, 32767, 32768, -32768, 65535, -1, 65536, 0, 65537, 1, LEAST, 0, GREATEST, -1};
        puts(c, x, LETTERS, letters);
        puts(c, x, TALLIES, tallies);
        c.sentence("of LENGTHS v by 8.0");
        int[] lengths = {0, 0, 1, 1, -1, -1, 7, 7, 8, 8, -9, -9, 65536, 65536, LEAST, LEAST, LEAST + 1, LEAST + 1,
            GREATEST - 1, GREATEST - 1, GREATEST, GREATEST};
        puts(c, x, LENGTHS, lengths);
    }

    private static void putSigns(Checks c) {
        c.sentence("of SIGNS whether v is not 0: 1");
        int[] signs = {0, 0, 1, 1, 0, 0, -1, 1, 2, 1, 0, 0, 65536, 1, 256, 1, -65536, 1, LEAST, 1, 0, 0, GREATEST, 1};
        puts(c, Checks.oneOfEach(1), SIGNS, signs);
    }

    /** Pairs of what is put and what is got then. */
    private static void puts(Checks c, MailRooms x, int item, int[] pairs) {
        for (int k = 0; k < pairs.length; k += 2) {
            c.due("put(" + item + ", 0, " + pairs[k] + ")", x.put(item, 0, pairs[k]), 1);
            c.due("refused()", x.refused(), 0);
            c.due("get of " + pairs[k] + ", KIND " + item, x.get(item, 0), pairs[k + 1]);
        }
    }

    private static void putRefused(Checks c) {
        c.sentence("put: BAD; CAST; INDEX.");
        MailRooms x = Checks.oneOfEach(2);
        for (int item : new int[] {LEAST, -1, 13, GREATEST}) {
            c.due("put(" + item + ", 0, 1)", x.put(item, 0, 1), BAD);
            c.due("refused()", x.refused(), BAD);
        }
        for (int kind = LETTERS; kind <= GOLD_ALBUM; kind++) {
            for (int i : new int[] {LEAST, -1, 0, 1, 2, GREATEST}) {
                int why = !Terms.isNumberRow(kind) ? CAST : i < 0 || i > 1 ? INDEX : 0;
                c.due("put(" + kind + ", " + i + ", 1)", x.put(kind, i, 1), why == 0 ? 1 : why);
                c.due("refused()", x.refused(), why);
            }
        }
    }

    private static void getLengths(Checks c) {
        c.sentence("of LENGTHS times 8.0 (as an int: cut toward 0, and to the ends)");
        MailRooms x = new MailRooms();
        x.make(LENGTHS, 3);
        x.desk(0, LENGTHS, STAMP, false);
        x.put(0, 0, GREATEST - 2);
        x.put(0, 1, LEAST);
        x.put(0, 2, -3);
        for (int grown = 0; grown <= 6; grown++) {
            c.due("towards the upper end, grown by " + grown, x.get(0, 0), GREATEST - Math.max(2 - grown, 0));
            c.due("from the lower end, grown by " + grown, x.get(0, 1), LEAST + grown);
            c.due("past 0, grown by " + grown, x.get(0, 2), -3 + grown);
            c.due("refused()", x.refused(), 0);
            x.hand(0, 0);
        }
        x.put(0, 0, GREATEST - 1);
        c.due("put below the end again", x.get(0, 0), GREATEST - 1);
    }

    private static void getRefused(Checks c) {
        c.sentence("get: (Any number.) BAD; CAST; INDEX.");
        MailRooms x = Checks.oneOfEach(2);
        for (int kind = LETTERS; kind <= SIGNS; kind++) {
            x.put(kind, 0, 1);
            x.put(kind, 1, 1);
        }
        for (int item : new int[] {LEAST, -1, 13, GREATEST}) {
            c.due("get(" + item + ", 0)", x.get(item, 0), 0);
            c.due("refused()", x.refused(), BAD);
        }
        for (int kind = LETTERS; kind <= GOLD_ALBUM; kind++) {
            for (int i : new int[] {LEAST, -1, 0, 1, 2, GREATEST}) {
                int why = !Terms.isNumberRow(kind) ? CAST : i < 0 || i > 1 ? INDEX : 0;
                c.due("get(" + kind + ", " + i + ")", x.get(kind, i), why == 0 ? 1 : 0);
                c.due("refused()", x.refused(), why);
            }
        }
    }

    private static void layNothing(Checks c) {
        c.sentence("An ITEM, or NOTHING (NONE), is laid at PLACE i of a row: 1.");
        int[][] rowAndThing = {{SHEETS, LETTERS}, {DECK, CARD}, {DECK, GOLD_CARD}, {GOLD_DECK, GOLD_CARD}, {TRAY, CARD},
            {TRAY, GOLD_CARD}, {TRAY, TOKEN}, {ALBUM, DECK}, {ALBUM, GOLD_DECK}, {GOLD_ALBUM, GOLD_DECK}};
        for (int[] pair : rowAndThing) {
            for (int i = 0; i < 3; i++) {
                MailRooms x = Checks.oneOfEach(3);
                c.due("lay of NOTHING over NOTHING", x.lay(pair[0], i, NONE), 1);
                c.due("refused()", x.refused(), 0);
                c.due("at of PLACE " + i, x.at(pair[0], i), NONE);
                c.due("lay of KIND " + pair[1] + " in KIND " + pair[0], x.lay(pair[0], i, pair[1]), 1);
                c.due("refused()", x.refused(), 0);
                for (int place = 0; place < 3; place++) {
                    c.due("at of PLACE " + place, x.at(pair[0], place), place == i ? pair[1] : NONE);
                }
                c.due("lay of the same over it", x.lay(pair[0], i, pair[1]), 1);
                c.due("at of PLACE " + i, x.at(pair[0], i), pair[1]);
                c.due("lay of NOTHING over it", x.lay(pair[0], i, NONE), 1);
                c.due("refused()", x.refused(), 0);
                c.due("at of PLACE " + i, x.at(pair[0], i), NONE);
            }
        }
    }

    private static void layBad(Checks c) {
        c.sentence("lay: BAD");
        for (int kind = LETTERS; kind <= GOLD_ALBUM; kind++) {
            MailRooms x = Checks.oneOfEach(1);
            for (int wrong : new int[] {LEAST, -3, -2, 13, 59, 60, GREATEST}) {
                c.due("lay(" + kind + ", 0, " + wrong + ")", x.lay(kind, 0, wrong), BAD);
                c.due("lay(" + wrong + ", 0, " + kind + ")", x.lay(wrong, 0, kind), BAD);
                c.due("refused()", x.refused(), BAD);
            }
            c.due("NONE is no row", x.lay(NONE, 0, kind), BAD);
            c.due("NONE is NOTHING", x.lay(kind, 0, NONE), Terms.isThingRow(kind) ? 1 : CAST);
        }
        MailRooms x = Checks.oneOfEach(1);
        c.due("lay of an ITEM to come", x.lay(DECK, 0, 13), BAD);
        x.make(CARD, 0);
        c.due("lay of it when it is there", x.lay(DECK, 0, 13), 1);
    }

    private static void layCast(Checks c) {
        c.sentence("CAST: what is laid IS no LETTERS (for SHEETS), no CARD (8, 9), not STAMPED (10), no DECK (11, 12), "
            + "or there is no such row");
        for (int row = LETTERS; row <= GOLD_ALBUM; row++) {
            MailRooms x = Checks.oneOfEach(1);
            for (int thing = LETTERS; thing <= GOLD_ALBUM; thing++) {
                boolean cast = !Terms.isThingRow(row) || !isTold(row, thing);
                String call = "lay(" + row + ", 0, " + thing + ")";
                c.holds(call + " is CAST: " + cast, x.lay(row, 0, thing) == CAST == cast);
                c.holds("refused() of " + call, x.refused() == CAST == cast);
            }
            c.due("lay(" + row + ", 0, NONE)", x.lay(row, 0, NONE), Terms.isThingRow(row) ? 1 : CAST);
        }
    }

    private static boolean isTold(int row, int thing) {
        return switch (row) {
            case SHEETS -> thing == LETTERS;
            case DECK, GOLD_DECK -> thing == CARD || thing == GOLD_CARD;
            case TRAY -> thing == CARD || thing == GOLD_CARD || thing == TOKEN;
            default -> thing == DECK || thing == GOLD_DECK;
        };
    }

    private static void layIndex(Checks c) {
        c.sentence("lay: INDEX");
        int[][] rowAndThing = {{SHEETS, LETTERS}, {DECK, CARD}, {GOLD_DECK, GOLD_CARD}, {TRAY, TOKEN}, {ALBUM, DECK},
            {GOLD_ALBUM, GOLD_DECK}};
        for (int n = 0; n <= 3; n++) {
            for (int[] pair : rowAndThing) {
                MailRooms x = Checks.oneOfEach(n);
                for (int i : new int[] {LEAST, -1, 0, 1, 2, 3, 4, GREATEST}) {
                    boolean there = i >= 0 && i < n;
                    String call = "lay(" + pair[0] + ", " + i + ", " + pair[1] + ") of " + n;
                    c.due(call, x.lay(pair[0], i, pair[1]), there ? 1 : INDEX);
                    c.due("refused() of " + call, x.refused(), there ? 0 : INDEX);
                    c.due("NOTHING at PLACE " + i + " of " + n, x.lay(pair[0], i, NONE), there ? 1 : INDEX);
                }
            }
        }
    }

    private static void layStore(Checks c) {
        c.sentence("STORE: a GOLD DECK holds GOLD CARDS alone, a GOLD ALBUM GOLD DECKS.");
        int[][] goldPlainThing = {{GOLD_DECK, DECK, CARD, GOLD_CARD}, {GOLD_ALBUM, ALBUM, DECK, GOLD_DECK}};
        for (int[] kinds : goldPlainThing) {
            MailRooms x = Checks.oneOfEach(1);
            c.due("a plain one in a gold row", x.lay(kinds[0], 0, kinds[2]), STORE);
            c.due("refused()", x.refused(), STORE);
            c.due("NOTHING lies there still", x.at(kinds[0], 0), NONE);
            c.due("a gold one in a gold row", x.lay(kinds[0], 0, kinds[3]), 1);
            c.due("refused()", x.refused(), 0);
            c.due("a plain one over it", x.lay(kinds[0], 0, kinds[2]), STORE);
            c.due("the gold one lies there still", x.at(kinds[0], 0), kinds[3]);
            c.due("a plain one in a plain row", x.lay(kinds[1], 0, kinds[2]), 1);
            c.due("a gold one in a plain row", x.lay(kinds[1], 0, kinds[3]), 1);
            c.due("a plain one again", x.lay(kinds[1], 0, kinds[2]), 1);
            c.due("count(3)", x.count(3), 2);
        }
    }

    private static void at(Checks c) {
        c.sentence("The ITEM at PLACE i of a row of things or of rows; NONE: NOTHING. BAD; CAST; INDEX.");
        MailRooms x = Checks.oneOfEach(3);
        x.make(LETTERS, 0);
        x.lay(SHEETS, 0, 0);
        c.due("at(4, 0): ITEM 0 is not NOTHING", x.at(SHEETS, 0), 0);
        c.due("refused()", x.refused(), 0);
        x.lay(SHEETS, 2, 13);
        c.due("at(4, 2)", x.at(SHEETS, 2), 13);
        c.due("at(4, 1)", x.at(SHEETS, 1), NONE);
        c.due("refused()", x.refused(), 0);
        for (int item : new int[] {LEAST, -1, 14, GREATEST}) {
            c.due("at(" + item + ", 0)", x.at(item, 0), BAD);
            c.due("refused()", x.refused(), BAD);
        }
        for (int kind = LETTERS; kind <= GOLD_ALBUM; kind++) {
            for (int i : new int[] {LEAST, -1, 3, GREATEST}) {
                int why = Terms.isThingRow(kind) ? INDEX : CAST;
                c.due("at(" + kind + ", " + i + ")", x.at(kind, i), why);
                c.due("refused()", x.refused(), why);
            }
            if (!Terms.isThingRow(kind)) {
                c.due("at(" + kind + ", 0)", x.at(kind, 0), CAST);
            }
        }
    }

    private static void is(Checks c) {
        c.sentence("Whether an ITEM IS of a FORM: 1, 0. BAD.");
        MailRooms x = Checks.oneOfEach(1);
        for (int kind = LETTERS; kind <= GOLD_ALBUM; kind++) {
            c.due("is(" + kind + ", its own)", x.is(kind, kind), 1);
            c.due("is(" + kind + ", 0)", x.is(kind, 0), kind == 0 ? 1 : 0);
            c.due("refused()", x.refused(), 0);
            c.due("is(" + kind + ", 13)", x.is(kind, 13), Terms.isPiece(kind) ? 1 : 0);
            c.due("refused()", x.refused(), 0);
            for (int form : new int[] {LEAST, -1, 14, GREATEST}) {
                c.due("is(" + kind + ", " + form + ")", x.is(kind, form), BAD);
                c.due("refused()", x.refused(), BAD);
            }
        }
        for (int item : new int[] {LEAST, -1, 13, GREATEST}) {
            c.due("is(" + item + ", 13)", x.is(item, 13), BAD);
            c.due("is(" + item + ", 14)", x.is(item, 14), BAD);
            c.due("refused()", x.refused(), BAD);
        }
    }

    private static void stamps(Checks c) {
        c.sentence("STAMPS of an ITEM that is STAMPED. (Any number.) BAD; CAST.");
        MailRooms x = Checks.oneOfEach(3);
        x.lay(DECK, 0, CARD);
        x.desk(0, STAMPED, STAMP, true);
        x.desk(0, DECK, STAMP, true);
        for (int kind = LETTERS; kind <= GOLD_ALBUM; kind++) {
            x.hand(kind, 0);
        }
        for (int kind = LETTERS; kind <= GOLD_ALBUM; kind++) {
            int want = kind == CARD || kind == GOLD_CARD ? 2 : kind == TOKEN ? 1 : 0;
            c.due("stamps(" + kind + ")", x.stamps(kind), want);
            c.due("refused()", x.refused(), Terms.isPiece(kind) ? 0 : CAST);
        }
        for (int item : new int[] {LEAST, -1, 13, GREATEST}) {
            c.due("stamps(" + item + ")", x.stamps(item), 0);
            c.due("refused()", x.refused(), BAD);
        }
    }
}
