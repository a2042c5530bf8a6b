/** The boundary cases that promises 9 to 15 name. */
public final class DeskCallsEdgesTest implements Terms {
    private static final int[] WRONG_ROOMS = {LEAST, -1, 8, GREATEST};
    private static final int[] WRONG_FORMS = {LEAST, -1, 14, GREATEST};
    private static final int[] WRONG_ACTS = {LEAST, -1, 5, GREATEST};

    public static void main(String[] args) {
        Checks c = new Checks();
        desk(c);
        changeStays(c);
        changeBad(c);
        hand(c);
        outNotOfSplit(c);
        outNone(c);
        toldNothing(c);
        toldLatest(c);
        toldBad(c);
        countRefused(c);
        countInAll(c);
        countBad(c);
        refusedOfEachCall(c);
        refusedNotOfTheOthers(c);
        c.end();
    }

    private static void desk(Checks c) {
        c.sentence("A DESK more of a ROOM: its number. BAD; FULL.");
        MailRooms x = new MailRooms();
        for (int desk = 0; desk < 4; desk++) {
            for (int room : WRONG_ROOMS) {
                c.due("desk of ROOM " + room, x.desk(room, 0, 0, true), BAD);
                c.due("refused()", x.refused(), BAD);
            }
            for (int form : WRONG_FORMS) {
                c.due("desk with FORM " + form, x.desk(7, form, 0, true), BAD);
                c.due("refused()", x.refused(), BAD);
            }
            for (int act : WRONG_ACTS) {
                c.due("desk with ACT " + act, x.desk(7, 0, act, true), BAD);
                c.due("refused()", x.refused(), BAD);
            }
            // The least and the greatest FORM and ACT.
            c.due("desk of ROOM 0", x.desk(0, desk % 2 * 13, desk / 2 * 4, true), desk);
            c.due("desk of ROOM 7", x.desk(7, desk / 2 * 13, desk % 2 * 4, false), desk);
            c.due("refused()", x.refused(), 0);
        }
        c.due("a fifth DESK", x.desk(0, 0, 0, true), FULL);
        c.due("refused()", x.refused(), FULL);
        c.due("a fifth DESK", x.desk(7, 0, 0, true), FULL);
        c.due("a first DESK of another ROOM", x.desk(6, 0, 0, true), 0);
        c.due("refused()", x.refused(), 0);
    }

    private static void changeStays(Checks c) {
        c.sentence("A DESK has another FORM and ACT, and ASKS or not; what it holds and its TALLY stay: 1.");
        for (int form = LETTERS; form <= STAMPED; form++) {
            for (int act = COUNT; act <= KEEP; act++) {
                for (int asks = 0; asks <= 1; asks++) {
                    changesAndStays(c, form, act, asks == 1);
                }
            }
        }
    }

    private static void changesAndStays(Checks c, int form, int act, boolean asks) {
        MailRooms x = Checks.oneOfEach(3);
        x.desk(0, TRAY, COUNT, false);
        x.hand(TRAY, 0);
        x.hand(SIGNS, 0);
        x.change(0, 0, TOKEN, KEEP, false);
        x.hand(TOKEN, 0);
        String call = "change to FORM " + form + ", ACT " + act + ", " + asks;
        c.due(call, x.change(0, 0, form, act, asks), 1);
        c.due("refused()", x.refused(), 0);
        int[] want = {3, TOKEN, 2, 1, SIGNS};
        for (int what = 0; what <= 4; what++) {
            c.due("told(0, 0, " + what + ") after " + call, x.told(0, 0, what), want[what]);
        }
        int stranger = form == LETTERS ? TALLIES : LETTERS;
        c.due("hand of another FORM after " + call, x.hand(stranger, 0), 0);
        c.due("out() after " + call, x.out(), asks ? stranger : NONE);
        if (form != STAMPED) {
            c.due("hand of the FORM after " + call, x.hand(form, 0), 1);
            c.due("out() after " + call, x.out(), act == KEEP ? TOKEN : form);
            c.due("what it holds after " + call, x.told(0, 0, 1), act == KEEP ? form : TOKEN);
            int counted = Terms.isPiece(form) ? 1 : 3;
            c.due("TALLY after " + call, x.told(0, 0, 0), act == COUNT ? 3 + counted : 3);
        }
    }

    private static void changeBad(Checks c) {
        c.sentence("change: BAD.");
        MailRooms x = Checks.oneOfEach(1);
        x.desk(7, CARD, STAMP, true);
        x.desk(7, CARD, COUNT, true);
        for (int room : WRONG_ROOMS) {
            c.due("change in ROOM " + room, x.change(room, 0, 0, 0, false), BAD);
            c.due("refused()", x.refused(), BAD);
        }
        for (int desk : new int[] {LEAST, -1, 2, 3, 4, GREATEST}) {
            c.due("change of DESK " + desk, x.change(7, desk, 0, 0, false), BAD);
            c.due("refused()", x.refused(), BAD);
        }
        for (int form : WRONG_FORMS) {
            c.due("change to FORM " + form, x.change(7, 0, form, 0, false), BAD);
            c.due("refused()", x.refused(), BAD);
        }
        for (int act : WRONG_ACTS) {
            c.due("change to ACT " + act, x.change(7, 0, 0, act, false), BAD);
            c.due("refused()", x.refused(), BAD);
        }
        c.due("change in a ROOM without DESKS", x.change(6, 0, 0, 0, false), BAD);
        c.due("hand(5, 7), as before", x.hand(CARD, 7), 2);
        c.due("stamps(5)", x.stamps(CARD), 1);
        c.due("change of DESK 0", x.change(7, 0, LETTERS, COUNT, true), 1);
        c.due("change of DESK 1", x.change(7, 1, STAMPED, KEEP, true), 1);
        c.due("refused()", x.refused(), 0);
    }

    private static void hand(Checks c) {
        c.sentence("An ITEM is HANDED to a ROOM: WORKS. BAD.");
        MailRooms x = Checks.oneOfEach(1);
        x.desk(0, LETTERS, COUNT, false);
        x.desk(7, GOLD_ALBUM, COUNT, false);
        c.due("hand(0, 0)", x.hand(0, 0), 1);
        c.due("refused()", x.refused(), 0);
        c.due("hand(12, 7)", x.hand(12, 7), 1);
        c.due("refused()", x.refused(), 0);
        for (int item : new int[] {LEAST, -1, 13, 59, 60, GREATEST}) {
            c.due("hand(" + item + ", 0)", x.hand(item, 0), BAD);
            c.due("hand(" + item + ", 8)", x.hand(item, 8), BAD);
            c.due("refused()", x.refused(), BAD);
        }
        for (int room : WRONG_ROOMS) {
            c.due("hand(12, " + room + ")", x.hand(12, room), BAD);
            c.due("refused()", x.refused(), BAD);
        }
        c.due("hand(12, 0), GIVEN BACK: no refusal", x.hand(12, 0), 0);
        c.due("refused()", x.refused(), 0);
        c.due("hand(0, 1), no DESKS: no refusal", x.hand(0, 1), 0);
        c.due("refused()", x.refused(), 0);
        c.due("count(4)", x.count(4), 1);
        c.due("told(0, 0, 2)", x.told(0, 0, 2), 1);
        c.due("told(7, 0, 2)", x.told(7, 0, 2), 1);
    }

    private static void outNotOfSplit(Checks c) {
        c.sentence("behind the last DESK of the ROOM to which the latest hand() went (not of what was SPLIT)");
        MailRooms x = Checks.oneOfEach(1);
        x.lay(DECK, 0, CARD);
        x.desk(0, DECK, SPLIT, true);
        x.hand(DECK, 0);
        c.due("the CARD came out of ROOM 1", x.out(), DECK);
        x.desk(1, TOKEN, COUNT, false);
        x.hand(DECK, 0);
        c.due("the CARD was GIVEN BACK in ROOM 1", x.out(), DECK);
        x.change(1, 0, CARD, KEEP, false);
        x.hand(DECK, 0);
        c.due("the CARD was kept in ROOM 1", x.out(), DECK);
        x.desk(0, CARD, COUNT, false);
        x.hand(DECK, 0);
        c.due("the DECK was GIVEN BACK behind SPLIT", x.out(), NONE);
        x.change(0, 1, DECK, KEEP, false);
        x.hand(DECK, 0);
        c.due("the DECK was kept behind SPLIT", x.out(), NONE);
        x.hand(GOLD_DECK, 0);
        c.due("the DECK went on in its place", x.out(), DECK);
        x.hand(CARD, 1);
        c.due("the CARD, HANDED to ROOM 1 itself, was held there and goes on", x.out(), CARD);
    }

    private static void outNone(Checks c) {
        c.sentence("NONE: it was GIVEN BACK, or nobody came");
        MailRooms x = Checks.oneOfEach(1);
        c.due("ahead of any hand()", x.out(), NONE);
        c.due("refused()", x.refused(), 0);
        for (int room = 0; room <= 7; room++) {
            x.hand(LETTERS, room);
            c.due("ITEM 0, out of a ROOM without DESKS", x.out(), LETTERS);
        }
        for (int desk = 0; desk < 4; desk++) {
            x.desk(0, CARD, COUNT, false);
            x.hand(TOKEN, 0);
            c.due("GIVEN BACK", x.out(), NONE);
            x.hand(TOKEN, 8);
            c.due("after a refused hand()", x.out(), NONE);
            x.hand(CARD, 0);
            c.due("past " + (desk + 1) + " DESKS", x.out(), CARD);
            x.hand(60, 0);
            c.due("after a refused hand()", x.out(), CARD);
            c.due("again", x.out(), CARD);
        }
        x.change(0, 3, CARD, KEEP, false);
        x.hand(CARD, 0);
        c.due("nobody came: the last DESK held NOTHING", x.out(), NONE);
        x.hand(GOLD_CARD, 0);
        c.due("what it held came", x.out(), CARD);
        x.change(0, 0, CARD, KEEP, false);
        x.hand(CARD, 0);
        c.due("nobody came: the first DESK held NOTHING", x.out(), NONE);
    }

    private static void toldNothing(Checks c) {
        c.sentence("1 the ITEM that it holds (NONE: NOTHING)");
        MailRooms x = Checks.oneOfEach(1);
        x.desk(7, LETTERS, KEEP, false);
        c.due("a new DESK holds NOTHING", x.told(7, 0, 1), NONE);
        x.hand(CARD, 7);
        c.due("what was GIVEN BACK is not held", x.told(7, 0, 1), NONE);
        x.hand(LETTERS, 7);
        c.due("ITEM 0 is held", x.told(7, 0, 1), 0);
        x.change(7, 0, CARD, COUNT, true);
        x.hand(CARD, 7);
        c.due("what is counted is not held", x.told(7, 0, 1), 0);
        x.change(7, 0, CARD, KEEP, true);
        x.hand(CARD, 7);
        c.due("another is held", x.told(7, 0, 1), CARD);
    }

    private static void toldLatest(Checks c) {
        c.sentence("3 how many it has GIVEN BACK, 4 the latest of these (NONE)");
        MailRooms x = Checks.oneOfEach(1);
        x.desk(3, CARD, COUNT, false);
        x.desk(3, GOLD_CARD, COUNT, false);
        c.due("of a new DESK", x.told(3, 0, 3), 0);
        c.due("of a new DESK", x.told(3, 0, 4), NONE);
        x.hand(CARD, 3);
        c.due("the next DESK gave it back", x.told(3, 1, 4), CARD);
        c.due("this one did not", x.told(3, 0, 3), 0);
        c.due("this one did not", x.told(3, 0, 4), NONE);
        int[] back = {LETTERS, TOKEN, TOKEN, GOLD_ALBUM};
        for (int k = 0; k < back.length; k++) {
            x.hand(back[k], 3);
            c.due("how many", x.told(3, 0, 3), k + 1);
            c.due("the latest", x.told(3, 0, 4), back[k]);
            x.hand(GOLD_CARD, 3);
            c.due("how many, as before", x.told(3, 0, 3), k + 1);
            c.due("the latest, as before", x.told(3, 0, 4), back[k]);
        }
        c.due("the next DESK's, as before", x.told(3, 1, 3), 1);
        c.due("the next DESK's, as before", x.told(3, 1, 4), CARD);
    }

    private static void toldBad(Checks c) {
        c.sentence("told: BAD.");
        MailRooms x = Checks.oneOfEach(1);
        for (int desk = 0; desk <= 3; desk++) {
            c.due("told of a DESK to come", x.told(7, desk, 0), BAD);
            c.due("desk", x.desk(7, 0, 0, true), desk);
            c.due("told of the DESK", x.told(7, desk, 0), 0);
            for (int wrong : new int[] {LEAST, -1, 4, GREATEST}) {
                c.due("told of DESK " + wrong, x.told(7, wrong, 0), BAD);
            }
            for (int wrong : new int[] {LEAST, -1, 5, GREATEST}) {
                c.due("told of what = " + wrong, x.told(7, desk, wrong), BAD);
            }
        }
        for (int room : WRONG_ROOMS) {
            c.due("told of ROOM " + room, x.told(room, 0, 0), BAD);
        }
        c.due("told of what = 0", x.told(7, 3, 0), 0);
        c.due("told of what = 4", x.told(7, 3, 4), NONE);
        c.due("refused() is not of told()", x.refused(), 0);
    }

    private static void countRefused(Checks c) {
        c.sentence("1 CASTS, 2 INDEXES, 3 STORES that were refused");
        MailRooms x = Checks.oneOfEach(1);
        x.lay(GOLD_DECK, 0, GOLD_CARD);
        x.put(LETTERS, 0, 1);
        counts(c, x, 0, 0, 0);
        x.put(CARD, 0, 1);
        counts(c, x, 1, 0, 0);
        x.get(CARD, 0);
        counts(c, x, 2, 0, 0);
        x.lay(CARD, 0, NONE);
        counts(c, x, 3, 0, 0);
        x.lay(DECK, 0, TOKEN);
        counts(c, x, 4, 0, 0);
        x.at(LETTERS, 0);
        counts(c, x, 5, 0, 0);
        x.stamps(LETTERS);
        counts(c, x, 6, 0, 0);
        x.put(LETTERS, 1, 1);
        counts(c, x, 6, 1, 0);
        x.get(LETTERS, -1);
        counts(c, x, 6, 2, 0);
        x.lay(GOLD_DECK, 1, CARD);
        counts(c, x, 6, 3, 0);
        x.at(DECK, 1);
        counts(c, x, 6, 4, 0);
        x.lay(GOLD_DECK, 0, CARD);
        counts(c, x, 6, 4, 1);
        x.lay(GOLD_ALBUM, 0, DECK);
        counts(c, x, 6, 4, 2);
        x.put(13, 0, 0);
        x.make(13, 0);
        x.desk(8, 0, 0, true);
        x.stamps(13);
        counts(c, x, 6, 4, 2);
        // What a DESK gives back is no refused CAST.
        x.desk(0, CARD, COUNT, false);
        x.hand(TOKEN, 0);
        counts(c, x, 6, 4, 2);
        c.due("count(4)", x.count(4), 1);
        c.due("count(0)", x.count(0), 13);
    }

    private static void counts(Checks c, MailRooms x, int casts, int indexes, int stores) {
        c.due("count(1)", x.count(1), casts);
        c.due("count(2)", x.count(2), indexes);
        c.due("count(3)", x.count(3), stores);
    }

    private static void countInAll(Checks c) {
        c.sentence("4 ITEMS GIVEN BACK, in all");
        MailRooms x = Checks.oneOfEach(3);
        c.due("count(4) at first", x.count(4), 0);
        int back = 0;
        for (int room = 0; room <= 7; room++) {
            x.desk(room, CARD, COUNT, true);
            x.desk(room, GOLD_CARD, COUNT, false);
            x.hand(GOLD_CARD, room);
            c.due("count(4), none GIVEN BACK in ROOM " + room, x.count(4), back);
            for (int times = 0; times < 2; times++) {
                x.hand(CARD, room);
                back++;
                c.due("count(4), one more GIVEN BACK in ROOM " + room, x.count(4), back);
            }
        }
        for (int i = 0; i < 3; i++) {
            x.lay(DECK, i, CARD);
        }
        x.change(0, 0, DECK, SPLIT, true);
        x.change(1, 0, TOKEN, COUNT, false);
        x.hand(DECK, 0);
        // Each of ROOM 1's two DESKS gives back one CARD, and ROOM 0's second one the DECK.
        c.due("count(4) after SPLIT", x.count(4), back + 3);
        x.change(1, 1, GOLD_CARD, COUNT, true);
        c.due("count(4) after change()", x.count(4), back + 3);
    }

    private static void countBad(Checks c) {
        c.sentence("count: BAD.");
        MailRooms x = new MailRooms();
        for (int what : new int[] {LEAST, -2, -1, 5, 6, GREATEST}) {
            c.due("count(" + what + ")", x.count(what), BAD);
        }
        for (int what = 0; what <= 4; what++) {
            c.due("count(" + what + ")", x.count(what), 0);
        }
        c.due("refused() is not of count()", x.refused(), 0);
    }

    private static void refusedOfEachCall(Checks c) {
        c.sentence("Why the latest call but out(), told(), count(), refused() was refused .. 0: it was not.");
        for (int call = 0; call < 10; call++) {
            MailRooms x = Checks.oneOfEach(1);
            x.desk(0, 0, 0, true);
            c.due("refused()", x.refused(), 0);
            refusedCall(x, call);
            c.due("refused() after refused call " + call, x.refused(), BAD);
            acceptedCall(x, call);
            c.due("refused() after accepted call " + call, x.refused(), 0);
            x.lay(GOLD_DECK, 0, CARD);
            c.due("refused()", x.refused(), STORE);
            refusedCall(x, call);
            c.due("refused() after refused call " + call, x.refused(), BAD);
            x.lay(GOLD_DECK, 1, CARD);
            c.due("refused()", x.refused(), INDEX);
            acceptedCall(x, call);
            c.due("refused() after accepted call " + call, x.refused(), 0);
        }
    }

    private static void refusedCall(MailRooms x, int call) {
        switch (call) {
            case 0 -> x.make(13, 0);
            case 1 -> x.put(60, 0, 1);
            case 2 -> x.get(60, 0);
            case 3 -> x.lay(60, 0, NONE);
            case 4 -> x.at(60, 0);
            case 5 -> x.is(60, 0);
            case 6 -> x.stamps(60);
            case 7 -> x.desk(8, 0, 0, true);
            case 8 -> x.change(8, 0, 0, 0, true);
            default -> x.hand(60, 0);
        }
    }

    private static void acceptedCall(MailRooms x, int call) {
        switch (call) {
            case 0 -> x.make(CARD, 0);
            case 1 -> x.put(LETTERS, 0, 1);
            case 2 -> x.get(LETTERS, 0);
            case 3 -> x.lay(DECK, 0, NONE);
            case 4 -> x.at(DECK, 0);
            case 5 -> x.is(LETTERS, STAMPED);
            case 6 -> x.stamps(CARD);
            case 7 -> x.desk(1, 0, 0, true);
            case 8 -> x.change(0, 0, 1, 1, true);
            default -> x.hand(LETTERS, 7);
        }
    }

    private static void refusedNotOfTheOthers(Checks c) {
        c.sentence("the latest call but out(), told(), count(), refused()");
        int[] reasons = {0, BAD, FULL, CAST, INDEX, STORE};
        for (int why : reasons) {
            MailRooms x = Checks.oneOfEach(1);
            for (int desk = 0; desk < 4; desk++) {
                x.desk(0, 0, 0, true);
            }
            refuseFor(x, why);
            c.due("refused()", x.refused(), why);
            c.due("refused() again", x.refused(), why);
            x.out();
            c.due("refused() after out()", x.refused(), why);
            x.told(0, 0, 0);
            c.due("refused() after told()", x.refused(), why);
            x.told(0, 4, 0);
            c.due("refused() after told() that is BAD", x.refused(), why);
            x.count(0);
            c.due("refused() after count()", x.refused(), why);
            x.count(5);
            c.due("refused() after count() that is BAD", x.refused(), why);
            x.is(0, 0);
            c.due("refused() after a call that was not refused", x.refused(), 0);
        }
    }

    private static void refuseFor(MailRooms x, int why) {
        switch (why) {
            case BAD -> x.hand(60, 0);
            case FULL -> x.desk(0, 0, 0, true);
            case CAST -> x.lay(GOLD_DECK, 0, TOKEN);
            case INDEX -> x.lay(GOLD_DECK, 1, CARD);
            case STORE -> x.lay(GOLD_DECK, 0, CARD);
            default -> x.lay(GOLD_DECK, 0, GOLD_CARD);
        }
    }
}
