/** The boundary cases of "What it is" and of the ITEMS in "Terms". */
public final class ItemsEdgesTest implements Terms {
    public static void main(String[] args) {
        Checks c = new Checks();
        sixtyItems(c);
        theLastItemIsUsable(c);
        fiveHundredAndTwelveCalls(c);
        placesOfNumberRows(c);
        placesOfThingRows(c);
        numbersAtFirst(c);
        nothingAtFirst(c);
        stampsAtFirst(c);
        formsAndNothingElse(c);
        c.end();
    }

    private static void sixtyItems(Checks c) {
        c.sentence("ITEMS, 60 at most");
        for (int kind = LETTERS; kind <= GOLD_ALBUM; kind++) {
            MailRooms x = new MailRooms();
            for (int number = 0; number < 60; number++) {
                c.due("make of ITEM " + number, x.make(kind, 3), number);
                c.due("refused()", x.refused(), 0);
                c.due("count(0)", x.count(0), number + 1);
            }
            for (int more = 0; more < 3; more++) {
                c.due("make of one too many", x.make(kind, 3), FULL);
                c.due("refused()", x.refused(), FULL);
                c.due("count(0)", x.count(0), 60);
            }
            c.due("is(59, " + kind + ")", x.is(59, kind), 1);
            c.due("is(60, " + kind + ")", x.is(60, kind), BAD);
        }
    }

    /** ITEM 59 in each call that names one; 60 is none. */
    private static void theLastItemIsUsable(Checks c) {
        c.sentence("ITEMS, 60 at most");
        MailRooms x = full(LETTERS);
        c.due("put(59, 0, 7)", x.put(59, 0, 7), 1);
        c.due("put(60, 0, 7)", x.put(60, 0, 7), BAD);
        c.due("get(59, 0)", x.get(59, 0), 7);
        c.due("get(58, 0)", x.get(58, 0), 0);
        c.due("get(60, 0)", x.get(60, 0), 0);
        c.due("refused()", x.refused(), BAD);
        c.due("hand(59, 0)", x.hand(59, 0), 0);
        c.due("out()", x.out(), 59);
        c.due("hand(60, 0)", x.hand(60, 0), BAD);

        MailRooms cards = full(GOLD_CARD);
        c.due("stamps(59)", cards.stamps(59), 0);
        c.due("refused()", cards.refused(), 0);
        c.due("stamps(60)", cards.stamps(60), 0);
        c.due("refused()", cards.refused(), BAD);

        MailRooms rows = full(SHEETS);
        c.due("lay(59, 0, NONE)", rows.lay(59, 0, NONE), 1);
        c.due("lay(60, 0, NONE)", rows.lay(60, 0, NONE), BAD);
        c.due("lay(59, 0, 59)", rows.lay(59, 0, 59), CAST);
        c.due("lay(59, 0, 60)", rows.lay(59, 0, 60), BAD);
        c.due("at(59, 0)", rows.at(59, 0), NONE);
        c.due("at(60, 0)", rows.at(60, 0), BAD);
    }

    private static MailRooms full(int kind) {
        MailRooms x = new MailRooms();
        for (int number = 0; number < 60; number++) {
            x.make(kind, 1);
        }
        return x;
    }

    private static void fiveHundredAndTwelveCalls(Checks c) {
        c.sentence("An object is used for at most 512 calls after it has been made");
        MailRooms x = new MailRooms();
        x.make(GOLD_CARD, 0);
        x.desk(0, STAMPED, STAMP, false);
        x.desk(0, STAMPED, COUNT, false);
        for (int call = 4; call <= 508; call++) {
            c.due("hand(0, 0) as call " + call, x.hand(0, 0), 2);
        }
        c.due("told(0, 1, 0) as call 509", x.told(0, 1, 0), 505);
        c.due("told(0, 0, 2) as call 510", x.told(0, 0, 2), 505);
        c.due("put(0, 0, 0) as call 511", x.put(0, 0, 0), CAST);
        c.due("stamps(0) as call 512", x.stamps(0), 1010);
        // What call 513 answers is free; that it answers at all is LANGUAGE.md's rule 7.
        x.hand(0, 0);

        MailRooms refusing = new MailRooms();
        for (int call = 1; call <= 511; call++) {
            c.due("at(0, 0) as call " + call, refusing.at(0, 0), BAD);
        }
        c.due("make(5, 0) as call 512", refusing.make(CARD, 0), 0);
        refusing.at(0, 0);
    }

    private static void placesOfNumberRows(Checks c) {
        c.sentence("Rows have 0 to 3 PLACES, from 0 on");
        for (int kind = LETTERS; kind <= SIGNS; kind++) {
            sizes(c, kind);
            for (int n = 0; n <= 3; n++) {
                MailRooms x = new MailRooms();
                x.make(kind, n);
                for (int i : new int[] {LEAST, -2, -1, 0, 1, 2, 3, 4, GREATEST}) {
                    boolean there = i >= 0 && i < n;
                    String place = "PLACE " + i + " of " + n + ", KIND " + kind;
                    c.due("put at " + place, x.put(0, i, 1), there ? 1 : INDEX);
                    c.due("get at " + place, x.get(0, i), there ? 1 : 0);
                    c.due("refused()", x.refused(), there ? 0 : INDEX);
                }
            }
        }
    }

    private static void placesOfThingRows(Checks c) {
        c.sentence("Rows have 0 to 3 PLACES, from 0 on");
        for (int kind : new int[] {SHEETS, DECK, GOLD_DECK, TRAY, ALBUM, GOLD_ALBUM}) {
            sizes(c, kind);
            for (int n = 0; n <= 3; n++) {
                MailRooms x = new MailRooms();
                x.make(kind, n);
                for (int i : new int[] {LEAST, -2, -1, 0, 1, 2, 3, 4, GREATEST}) {
                    boolean there = i >= 0 && i < n;
                    String place = "PLACE " + i + " of " + n + ", KIND " + kind;
                    c.due("lay at " + place, x.lay(0, i, NONE), there ? 1 : INDEX);
                    c.due("at of " + place, x.at(0, i), there ? NONE : INDEX);
                    c.due("refused()", x.refused(), there ? 0 : INDEX);
                }
            }
        }
    }

    private static void sizes(Checks c, int kind) {
        MailRooms x = new MailRooms();
        for (int n : new int[] {LEAST, -2, -1, 4, 5, GREATEST}) {
            c.due("make(" + kind + ", " + n + ")", x.make(kind, n), BAD);
            c.due("refused()", x.refused(), BAD);
        }
        for (int n = 0; n <= 3; n++) {
            c.due("make(" + kind + ", " + n + ")", x.make(kind, n), n);
            c.due("refused()", x.refused(), 0);
        }
    }

    private static void numbersAtFirst(Checks c) {
        c.sentence("numbers are 0 and false at first");
        for (int kind = LETTERS; kind <= SIGNS; kind++) {
            for (int n = 1; n <= 3; n++) {
                MailRooms x = new MailRooms();
                x.make(kind, 3);
                for (int i = 0; i < 3; i++) {
                    x.put(0, i, 1);
                }
                int fresh = x.make(kind, n);
                for (int i = 0; i < n; i++) {
                    c.due("get of PLACE " + i + " of " + n + ", KIND " + kind, x.get(fresh, i), 0);
                    c.due("refused()", x.refused(), 0);
                }
            }
        }
        MailRooms signs = new MailRooms();
        signs.make(SIGNS, 1);
        signs.desk(0, SIGNS, STAMP, false);
        signs.hand(0, 0);
        c.due("a SIGN that was false, made the other one", signs.get(0, 0), 1);
    }

    private static void nothingAtFirst(Checks c) {
        c.sentence("other PLACES hold NOTHING");
        for (int kind : new int[] {SHEETS, DECK, GOLD_DECK, TRAY, ALBUM, GOLD_ALBUM}) {
            for (int n = 1; n <= 3; n++) {
                MailRooms x = new MailRooms();
                x.make(kind, n);
                for (int i = 0; i < n; i++) {
                    c.due("at of PLACE " + i + " of " + n + ", KIND " + kind, x.at(0, i), NONE);
                    c.due("refused()", x.refused(), 0);
                }
                x.desk(0, kind, SPLIT, false);
                x.desk(0, kind, STAMP, false);
                x.desk(1, LETTERS, COUNT, false);
                c.due("hand of a row of NOTHING", x.hand(0, 0), 2);
                c.due("what was GIVEN BACK of a row of NOTHING", x.count(4), 0);
            }
        }
    }

    private static void stampsAtFirst(Checks c) {
        c.sentence("CARDS, GOLD CARDS and TOKENS are STAMPED: each has STAMPS, 0 at first.");
        for (int kind = LETTERS; kind <= GOLD_ALBUM; kind++) {
            MailRooms x = Checks.oneOfEach(3);
            c.due("stamps of KIND " + kind, x.stamps(kind), 0);
            c.due("refused()", x.refused(), Terms.isPiece(kind) ? 0 : CAST);
        }
        MailRooms x = Checks.oneOfEach(1);
        x.desk(0, STAMPED, STAMP, true);
        for (int kind = CARD; kind <= TOKEN; kind++) {
            x.hand(kind, 0);
            c.due("stamps after one STAMP", x.stamps(kind), kind == GOLD_CARD ? 2 : 1);
            c.due("stamps of a new one", x.stamps(x.make(kind, 0)), 0);
        }
    }

    private static void formsAndNothingElse(Checks c) {
        c.sentence("An ITEM IS of its KIND's FORM; a GOLD CARD IS a CARD, too; all three ARE STAMPED; a DECK IS a TRAY, "
            + "a GOLD DECK a DECK and a TRAY; a GOLD ALBUM IS an ALBUM; and nothing else.");
        MailRooms x = Checks.oneOfEach(3);
        for (int kind = LETTERS; kind <= GOLD_ALBUM; kind++) {
            for (int form = LETTERS; form <= STAMPED; form++) {
                c.due("is(" + kind + ", " + form + ")", x.is(kind, form), isOf(kind, form) ? 1 : 0);
            }
        }
        // A DESK and is() ask the same.
        for (int form = LETTERS; form <= STAMPED; form++) {
            MailRooms y = Checks.oneOfEach(3);
            y.desk(0, form, COUNT, false);
            for (int kind = LETTERS; kind <= GOLD_ALBUM; kind++) {
                c.due("hand of KIND " + kind + " to FORM " + form, y.hand(kind, 0), isOf(kind, form) ? 1 : 0);
                c.due("out()", y.out(), isOf(kind, form) ? kind : NONE);
            }
        }
    }

    private static boolean isOf(int kind, int form) {
        return kind == form
            || kind == GOLD_CARD && form == CARD
            || Terms.isPiece(kind) && form == STAMPED
            || kind == DECK && form == TRAY
            || kind == GOLD_DECK && (form == DECK || form == TRAY)
            || kind == GOLD_ALBUM && form == ALBUM;
    }
}
