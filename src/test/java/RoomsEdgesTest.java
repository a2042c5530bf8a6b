/** The boundary cases of ROOMS, DESKS and GIVING BACK in "Terms". */
public final class RoomsEdgesTest implements Terms {
    public static void main(String[] args) {
        Checks c = new Checks();
        eightRooms(c);
        fourDesks(c);
        numberedAsTheyCome(c);
        inOrder(c);
        asksOrTakes(c);
        goesNoFurther(c);
        asksForTheRest(c);
        asksAlone(c);
        takesAgainInTheNextCall(c);
        asksThroughOtherDesksOfTheCall(c);
        c.end();
    }

    private static void eightRooms(Checks c) {
        c.sentence("ROOMS 0 .. 7 have DESKS");
        MailRooms x = new MailRooms();
        x.make(CARD, 0);
        for (int room = 0; room <= 7; room++) {
            c.due("desk of ROOM " + room, x.desk(room, CARD, STAMP, false), 0);
            c.due("change in ROOM " + room, x.change(room, 0, CARD, COUNT, false), 1);
            c.due("hand to ROOM " + room, x.hand(0, room), 1);
            for (int other = 0; other <= 7; other++) {
                c.due("told of ROOM " + other, x.told(other, 0, 0), other <= room ? 1 : BAD);
            }
        }
        for (int room : new int[] {LEAST, -2, -1, 8, 9, GREATEST}) {
            c.due("desk of ROOM " + room, x.desk(room, CARD, STAMP, false), BAD);
            c.due("change in ROOM " + room, x.change(room, 0, CARD, COUNT, false), BAD);
            c.due("hand to ROOM " + room, x.hand(0, room), BAD);
            c.due("told of ROOM " + room, x.told(room, 0, 0), BAD);
        }
    }

    private static void fourDesks(Checks c) {
        c.sentence("DESKS, 4 at most each");
        MailRooms x = new MailRooms();
        x.make(CARD, 0);
        for (int room = 0; room <= 7; room++) {
            for (int desk = 0; desk < 4; desk++) {
                c.due("desk of ROOM " + room, x.desk(room, CARD, COUNT, false), desk);
                c.due("refused()", x.refused(), 0);
            }
            for (int more = 0; more < 2; more++) {
                c.due("a DESK too many of ROOM " + room, x.desk(room, CARD, COUNT, false), FULL);
                c.due("refused()", x.refused(), FULL);
            }
            c.due("hand past four DESKS of ROOM " + room, x.hand(0, room), 4);
            c.due("told of DESK 3", x.told(room, 3, 2), 1);
            c.due("told of DESK 4", x.told(room, 4, 2), BAD);
            c.due("change of DESK 3", x.change(room, 3, CARD, COUNT, false), 1);
            c.due("change of DESK 4", x.change(room, 4, CARD, COUNT, false), BAD);
        }
    }

    private static void numberedAsTheyCome(Checks c) {
        c.sentence("numbered from 0 on as they come");
        MailRooms x = new MailRooms();
        for (int desk = 0; desk < 4; desk++) {
            for (int room = 7; room >= 0; room--) {
                c.due("told of a DESK to come", x.told(room, desk, 0), BAD);
                c.due("change of a DESK to come", x.change(room, desk, 0, 0, true), BAD);
                c.due("desk of ROOM " + room, x.desk(room, desk, COUNT, true), desk);
                c.due("told of DESK " + desk, x.told(room, desk, 0), 0);
                c.due("told of DESK -1", x.told(room, -1, 0), BAD);
            }
        }
    }

    /** Each DESK but the last one KEEPS, so that what it sees first and lets go shows the order. */
    private static void inOrder(Checks c) {
        c.sentence("An ITEM that is HANDED to a ROOM comes to its DESKS in order.");
        MailRooms x = Checks.oneOfEach(1);
        for (int desk = 0; desk < 4; desk++) {
            x.desk(0, STAMPED, KEEP, false);
        }
        int[] handed = {CARD, GOLD_CARD, TOKEN, CARD, TOKEN};
        for (int k = 0; k < handed.length; k++) {
            c.due("WORKS of hand " + k, x.hand(handed[k], 0), Math.min(k + 1, 4));
            c.due("out() of hand " + k, x.out(), k < 4 ? NONE : handed[k - 4]);
            for (int desk = 0; desk < 4; desk++) {
                c.due("what DESK " + desk + " holds", x.told(0, desk, 1), desk <= k ? handed[k - desk] : NONE);
            }
        }
    }

    private static void asksOrTakes(Checks c) {
        c.sentence("A DESK that ASKS lets go on what IS not of its FORM; one that does not TAKES each as its FORM");
        for (int asks = 0; asks <= 1; asks++) {
            MailRooms x = Checks.oneOfEach(1);
            x.desk(0, GOLD_CARD, COUNT, asks == 1);
            x.desk(0, CARD, COUNT, true);
            c.due("what IS of the FORM", x.hand(GOLD_CARD, 0), 2);
            c.due("out()", x.out(), GOLD_CARD);
            c.due("what IS not of it", x.hand(CARD, 0), asks);
            c.due("out()", x.out(), asks == 1 ? CARD : NONE);
            c.due("how many it has GIVEN BACK", x.told(0, 0, 3), 1 - asks);
            c.due("the latest", x.told(0, 0, 4), asks == 1 ? NONE : CARD);
            c.due("how often it WORKED", x.told(0, 0, 2), 1);
            c.due("how often the next one WORKED", x.told(0, 1, 2), 1 + asks);
        }
    }

    private static void goesNoFurther(Checks c) {
        c.sentence("what IS not of it is GIVEN BACK, and goes no further");
        for (int taking = 0; taking < 4; taking++) {
            MailRooms x = Checks.oneOfEach(1);
            for (int desk = 0; desk < 4; desk++) {
                x.desk(5, desk == taking ? TOKEN : CARD, COUNT, false);
            }
            c.due("WORKS ahead of DESK " + taking, x.hand(CARD, 5), taking);
            c.due("out()", x.out(), NONE);
            for (int desk = 0; desk < 4; desk++) {
                c.due("DESK " + desk + " WORKED", x.told(5, desk, 2), desk < taking ? 1 : 0);
                c.due("DESK " + desk + " has GIVEN BACK", x.told(5, desk, 3), desk == taking ? 1 : 0);
                c.due("the latest of DESK " + desk, x.told(5, desk, 4), desk == taking ? CARD : NONE);
            }
            c.due("count(4)", x.count(4), 1);
        }
    }

    private static void asksForTheRest(Checks c) {
        c.sentence("for the rest of that call (of hand()) the DESK ASKS then");
        for (int back = 0; back <= 3; back++) {
            MailRooms x = Checks.oneOfEach(3);
            x.desk(0, TRAY, SPLIT, false);
            x.desk(1, TOKEN, COUNT, false);
            x.desk(1, STAMPED, STAMP, false);
            for (int i = 0; i < 3; i++) {
                x.lay(TRAY, i, i < back ? CARD : TOKEN);
            }
            // The first CARD is GIVEN BACK; the others go on; TOKENS are WORKED on by both DESKS.
            int letOn = Math.max(back - 1, 0);
            c.due("WORKS with " + back + " CARDS", x.hand(TRAY, 0), 1 + letOn + 2 * (3 - back));
            c.due("GIVEN BACK of " + back, x.told(1, 0, 3), Math.min(back, 1));
            c.due("the latest", x.told(1, 0, 4), back == 0 ? NONE : CARD);
            c.due("STAMPS of the CARD", x.stamps(CARD), letOn);
            c.due("STAMPS of the TOKEN", x.stamps(TOKEN), 3 - back);
            c.due("count(4)", x.count(4), Math.min(back, 1));
        }
    }

    /** Only the DESK that gave back ASKS: the next one TAKES still, and another ROOM's, too. */
    private static void asksAlone(Checks c) {
        c.sentence("for the rest of that call (of hand()) the DESK ASKS then");
        MailRooms x = Checks.oneOfEach(3);
        x.desk(0, DECK, SPLIT, false);
        x.desk(1, TOKEN, COUNT, false);
        x.desk(1, TALLIES, COUNT, false);
        x.desk(1, SIGNS, COUNT, false);
        x.desk(1, CARD, STAMP, false);
        for (int i = 0; i < 3; i++) {
            x.lay(DECK, i, CARD);
        }
        c.due("the first three are GIVEN BACK, one by each", x.hand(DECK, 0), 1);
        for (int desk = 0; desk < 3; desk++) {
            c.due("DESK " + desk + " has GIVEN BACK", x.told(1, desk, 3), 1);
        }
        c.due("count(4)", x.count(4), 3);
        c.due("STAMPS", x.stamps(CARD), 0);
        x.change(1, 2, CARD, COUNT, false);
        c.due("now the third one goes past all", x.hand(DECK, 0), 3);
        c.due("count(4)", x.count(4), 5);
        c.due("STAMPS", x.stamps(CARD), 1);
    }

    private static void takesAgainInTheNextCall(Checks c) {
        c.sentence("for the rest of that call (of hand()) the DESK ASKS then");
        MailRooms x = Checks.oneOfEach(1);
        x.desk(3, CARD, COUNT, false);
        for (int times = 1; times <= 4; times++) {
            c.due("hand of a TOKEN, time " + times, x.hand(TOKEN, 3), 0);
            c.due("out()", x.out(), NONE);
            c.due("GIVEN BACK", x.told(3, 0, 3), times);
            // Neither a refused call nor another one lets the DESK ask.
            x.hand(TOKEN, 8);
            x.is(TOKEN, CARD);
        }
        c.due("what IS of the FORM", x.hand(CARD, 3), 1);
        c.due("out()", x.out(), CARD);
        x.change(3, 0, CARD, COUNT, true);
        c.due("a DESK that ASKS in each call", x.hand(TOKEN, 3), 0);
        c.due("out()", x.out(), TOKEN);
        c.due("GIVEN BACK", x.told(3, 0, 3), 4);
    }

    /** What a DESK gave back in the midst of a call, it lets on later in it, whichever row that comes from. */
    private static void asksThroughOtherDesksOfTheCall(Checks c) {
        c.sentence("for the rest of that call (of hand()) the DESK ASKS then");
        MailRooms x = Checks.oneOfEach(1);
        x.lay(DECK, 0, CARD);
        x.desk(0, DECK, SPLIT, false);
        x.desk(0, DECK, SPLIT, false);
        x.desk(1, TOKEN, COUNT, false);
        x.desk(1, CARD, STAMP, false);
        c.due("the second SPLIT's CARD goes on", x.hand(DECK, 0), 3);
        c.due("GIVEN BACK", x.told(1, 0, 3), 1);
        c.due("STAMPS", x.stamps(CARD), 1);
        c.due("the same in the next call", x.hand(DECK, 0), 3);
        c.due("GIVEN BACK", x.told(1, 0, 3), 2);
        c.due("STAMPS", x.stamps(CARD), 2);
    }
}
