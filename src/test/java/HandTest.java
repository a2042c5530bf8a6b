/** Promise 11: hand, and the ACTS. */
public final class HandTest {
    private static final int COUNT = 0, TURN = 1, STAMP = 2, SPLIT = 3, KEEP = 4;

    public static void main(String[] args) {
        Checks c = new Checks();
        bad(c);
        counts(c);
        turns(c);
        stampsNumbers(c);
        stampsRows(c);
        nothingElse(c);
        splits(c);
        splitsBehindTheLastRoom(c);
        splitsThroughAllRooms(c);
        splitsByEveryDesk(c);
        keeps(c);
        asksForTheRest(c);
        turnedWhileSplit(c);
        c.end();
    }

    private static void bad(Checks c) {
        MailRooms x = Checks.oneOfEach(1);
        x.desk(0, 5, STAMP, true);
        for (int edge : new int[] {Integer.MIN_VALUE, -1, 13, Integer.MAX_VALUE}) {
            c.due("hand(" + edge + ", 0)", x.hand(edge, 0), MailRooms.BAD);
            c.due("hand(5, " + edge + ")", x.hand(5, edge), MailRooms.BAD);
            c.due("refused()", x.refused(), MailRooms.BAD);
        }
        c.due("hand(5, 8)", x.hand(5, 8), MailRooms.BAD);
        c.due("stamps(5)", x.stamps(5), 0);
        c.due("hand(5, 0)", x.hand(5, 0), 1);
        c.due("refused()", x.refused(), 0);
        c.due("hand to a ROOM without DESKS", x.hand(5, 7), 0);
    }

    private static void counts(Checks c) {
        for (int n = 0; n <= 3; n++) {
            for (int kind = 0; kind <= 12; kind++) {
                MailRooms x = Checks.oneOfEach(n);
                x.desk(6, kind, COUNT, true);
                boolean row = kind < 5 || kind > 7;
                c.due("hand(" + kind + ", 6)", x.hand(kind, 6), 1);
                c.due("TALLY of " + kind, x.told(6, 0, 0), row ? n : 1);
                x.hand(kind, 6);
                c.due("TALLY of " + kind + " twice", x.told(6, 0, 0), row ? 2 * n : 2);
            }
        }
    }

    private static void turns(Checks c) {
        for (int n = 0; n <= 3; n++) {
            for (int kind = 0; kind < 4; kind++) {
                MailRooms x = Checks.oneOfEach(n);
                x.desk(0, kind, TURN, true);
                for (int i = 0; i < n; i++) {
                    x.put(kind, i, kind == 3 ? i % 3 / 2 : i - 1);
                }
                int[] before = numbers(x, kind, n);
                c.due("hand of " + kind, x.hand(kind, 0), 1);
                for (int i = 0; i < n; i++) {
                    c.due("turned PLACE " + i + " of " + n + " in " + kind, x.get(kind, i), before[n - 1 - i]);
                }
            }
        }
        MailRooms x = Checks.oneOfEach(3);
        x.desk(0, 8, TURN, true);
        x.desk(0, 13, TURN, true);
        x.lay(8, 0, 5);
        x.lay(8, 1, 6);
        c.due("hand of a DECK", x.hand(8, 0), 1);
        c.due("at(8, 0)", x.at(8, 0), MailRooms.NONE);
        c.due("at(8, 1)", x.at(8, 1), 6);
        c.due("at(8, 2)", x.at(8, 2), 5);
        c.due("hand of a TOKEN, nothing to turn but WORKED on", x.hand(7, 0), 1);
    }

    private static int[] numbers(MailRooms x, int item, int n) {
        int[] all = new int[n];
        for (int i = 0; i < n; i++) {
            all[i] = x.get(item, i);
        }
        return all;
    }

    private static void stampsNumbers(Checks c) {
        int[][] fromTo0 = {{0, 1}, {65534, 65535}, {65535, 0}};
        int[][] fromTo1 = {{-1, 0}, {32767, -32768}, {-32768, -32767}};
        int[][] fromTo2 = {{-1, 0}, {7, 8}, {Integer.MIN_VALUE, Integer.MIN_VALUE + 1}};
        int[][] fromTo3 = {{0, 1}, {1, 0}, {-5, 0}};
        int[][][] all = {fromTo0, fromTo1, fromTo2, fromTo3};
        for (int kind = 0; kind < 4; kind++) {
            MailRooms x = Checks.oneOfEach(3);
            x.desk(0, kind, STAMP, false);
            for (int i = 0; i < 3; i++) {
                x.put(kind, i, all[kind][i][0]);
            }
            c.due("hand of " + kind, x.hand(kind, 0), 1);
            for (int i = 0; i < 3; i++) {
                c.due("STAMPED " + all[kind][i][0] + " in " + kind, x.get(kind, i), all[kind][i][1]);
            }
        }
    }

    private static void stampsRows(Checks c) {
        MailRooms x = Checks.oneOfEach(3);
        for (int form : new int[] {4, 10, 11}) {
            x.desk(0, form, STAMP, true);
        }
        x.lay(4, 0, 0);
        x.lay(4, 2, 0);
        c.due("hand of SHEETS", x.hand(4, 0), 1);
        c.due("LETTERS that stand there twice", x.get(0, 1), 2);
        x.lay(10, 0, 5);
        x.lay(10, 1, 6);
        x.lay(10, 2, 7);
        c.due("hand of a TRAY", x.hand(10, 0), 1);
        c.due("a CARD of a TRAY", x.stamps(5), 1);
        c.due("a GOLD CARD of a TRAY", x.stamps(6), 2);
        c.due("a TOKEN of a TRAY", x.stamps(7), 1);
        x.lay(8, 0, 5);
        x.lay(8, 1, 5);
        x.lay(9, 2, 6);
        x.lay(11, 0, 8);
        x.lay(11, 1, 9);
        x.lay(11, 2, 8);
        c.due("hand of an ALBUM", x.hand(11, 0), 1);
        c.due("a CARD twice in a DECK twice in an ALBUM", x.stamps(5), 5);
        c.due("a GOLD CARD in a GOLD DECK in an ALBUM", x.stamps(6), 4);
        c.due("a TOKEN elsewhere", x.stamps(7), 1);
        x.lay(12, 1, 9);
        c.due("hand of a GOLD ALBUM", x.hand(12, 0), 1);
        c.due("a GOLD CARD of a GOLD ALBUM", x.stamps(6), 6);
    }

    /** An ACT does what it is told to, and not what another one does. */
    private static void nothingElse(Checks c) {
        for (int act = COUNT; act <= KEEP; act++) {
            MailRooms x = Checks.oneOfEach(2);
            x.lay(8, 0, 5);
            x.lay(8, 1, 6);
            x.desk(0, 8, act, true);
            x.desk(1, 13, COUNT, true);
            c.due("hand to act " + act, x.hand(8, 0), act == SPLIT ? 3 : 1);
            c.due("TALLY after act " + act, x.told(0, 0, 0), act == COUNT ? 2 : 0);
            c.due("PLACE 0 after act " + act, x.at(8, 0), act == TURN ? 6 : 5);
            c.due("STAMPS after act " + act, x.stamps(5), act == STAMP ? 1 : 0);
            c.due("the next ROOM after act " + act, x.told(1, 0, 2), act == SPLIT ? 2 : 0);
            c.due("what is held after act " + act, x.told(0, 0, 1), act == KEEP ? 8 : MailRooms.NONE);
            c.due("out() after act " + act, x.out(), act == KEEP ? MailRooms.NONE : 8);
        }
    }

    private static void splits(Checks c) {
        MailRooms x = Checks.oneOfEach(3);
        x.desk(2, 10, SPLIT, true);
        x.desk(2, 0, SPLIT, true);
        x.desk(2, 13, SPLIT, true);
        x.desk(3, 6, STAMP, false);
        x.desk(3, 13, KEEP, true);
        x.lay(10, 0, 6);
        x.lay(10, 2, 7);
        c.due("SPLIT of a TRAY: the TOKEN is GIVEN BACK", x.hand(10, 2), 3);
        c.due("told(3, 0, 4)", x.told(3, 0, 4), 7);
        c.due("told(3, 1, 1)", x.told(3, 1, 1), 6);
        c.due("out(): the row itself goes on", x.out(), 10);
        c.due("SPLIT of LETTERS, WORKED on but nothing done", x.hand(0, 2), 1);
        c.due("out()", x.out(), 0);
        c.due("SPLIT of a CARD", x.hand(5, 2), 1);
        c.due("stamps(5)", x.stamps(5), 0);
        x.lay(10, 0, 7);
        x.lay(10, 1, 5);
        x.lay(10, 2, 6);
        c.due("PLACE 0 first: the TOKEN is GIVEN BACK, the CARD let on", x.hand(10, 2), 4);
        c.due("told(3, 0, 4)", x.told(3, 0, 4), 7);
        c.due("told(3, 1, 1): the latest", x.told(3, 1, 1), 6);
        c.due("a ROOM is not passed through to the next", x.hand(5, 1), 0);
    }

    private static void splitsBehindTheLastRoom(Checks c) {
        MailRooms x = Checks.oneOfEach(1);
        x.desk(7, 8, SPLIT, true);
        x.desk(7, 8, COUNT, true);
        x.desk(0, 5, STAMP, true);
        x.lay(8, 0, 5);
        c.due("SPLIT in ROOM 7", x.hand(8, 7), 2);
        c.due("stamps(5)", x.stamps(5), 0);
        c.due("out()", x.out(), 8);
    }

    /** Every ROOM lets go a kept ALBUM when the first DECK comes, so that SPLIT goes on to the last one. */
    private static void splitsThroughAllRooms(Checks c) {
        MailRooms x = new MailRooms();
        x.make(8, 1);
        for (int room = 0; room < 8; room++) {
            x.make(11, 1);
            x.lay(room + 1, 0, 0);
            x.desk(room, 11, KEEP, true);
            x.hand(room + 1, room);
            x.change(room, 0, 8, KEEP, true);
            x.desk(room, 11, SPLIT, true);
        }
        c.due("hand(0, 0)", x.hand(0, 0), 16);
        c.due("out()", x.out(), 1);
        for (int room = 0; room < 8; room++) {
            c.due("told(" + room + ", 0, 1)", x.told(room, 0, 1), 0);
            c.due("told(" + room + ", 1, 2)", x.told(room, 1, 2), 1);
        }
    }

    private static void splitsByEveryDesk(Checks c) {
        MailRooms x = new MailRooms();
        x.make(12, 3);
        x.make(9, 3);
        x.make(6, 0);
        for (int i = 0; i < 3; i++) {
            x.lay(0, i, 1);
            x.lay(1, i, 2);
        }
        for (int desk = 0; desk < 4; desk++) {
            x.desk(5, 11, SPLIT, false);
            x.desk(6, 10, SPLIT, false);
            x.desk(7, 13, STAMP, false);
        }
        c.due("hand(0, 5)", x.hand(0, 5), 4 + 12 * 4 + 144 * 4);
        c.due("stamps(2)", x.stamps(2), 2 * 144 * 4);
        c.due("told(7, 3, 2)", x.told(7, 3, 2), 144);
        c.due("told(6, 0, 2)", x.told(6, 0, 2), 12);
        c.due("out()", x.out(), 0);
    }

    private static void keeps(Checks c) {
        MailRooms x = Checks.oneOfEach(1);
        x.desk(0, 13, KEEP, true);
        x.desk(0, 5, STAMP, false);
        c.due("the first is held", x.hand(5, 0), 1);
        c.due("out()", x.out(), MailRooms.NONE);
        c.due("told(0, 0, 1)", x.told(0, 0, 1), 5);
        c.due("the second lets the first go on", x.hand(7, 0), 2);
        c.due("out()", x.out(), 5);
        c.due("stamps(5)", x.stamps(5), 1);
        c.due("told(0, 0, 1)", x.told(0, 0, 1), 7);
        c.due("the TOKEN goes on and is GIVEN BACK", x.hand(6, 0), 1);
        c.due("out()", x.out(), MailRooms.NONE);
        c.due("told(0, 1, 4)", x.told(0, 1, 4), 7);
        c.due("what is held comes again", x.hand(6, 0), 2);
        c.due("out()", x.out(), 6);
        c.due("told(0, 0, 1)", x.told(0, 0, 1), 6);
        c.due("stamps(6)", x.stamps(6), 2);
    }

    private static void asksForTheRest(Checks c) {
        MailRooms x = Checks.oneOfEach(3);
        x.desk(0, 10, SPLIT, true);
        x.desk(1, 6, STAMP, false);
        x.desk(1, 7, COUNT, false);
        x.lay(10, 0, 5);
        x.lay(10, 1, 5);
        x.lay(10, 2, 7);
        c.due("back at desk 0; back at desk 1; on to both", x.hand(10, 0), 2);
        c.due("told(1, 0, 3)", x.told(1, 0, 3), 1);
        c.due("told(1, 1, 3)", x.told(1, 1, 3), 1);
        c.due("count(4)", x.count(4), 2);
        c.due("the next call starts afresh", x.hand(7, 1), 0);
        c.due("out()", x.out(), MailRooms.NONE);
        c.due("told(1, 0, 3)", x.told(1, 0, 3), 2);
        c.due("told(1, 0, 4)", x.told(1, 0, 4), 7);
        x.hand(99, 1);
        c.due("a refused call starts nothing", x.hand(5, 1), 0);
        c.due("told(1, 0, 3)", x.told(1, 0, 3), 3);
    }

    /** An ALBUM that ROOM 1 had kept is let go, and turned, while ROOM 0 splits it. */
    private static void turnedWhileSplit(Checks c) {
        MailRooms x = new MailRooms();
        x.make(11, 2);
        x.make(8, 1);
        x.make(8, 1);
        x.lay(0, 0, 1);
        x.lay(0, 1, 2);
        x.desk(0, 11, SPLIT, true);
        x.desk(1, 11, KEEP, true);
        x.desk(1, 11, TURN, true);
        x.hand(0, 1);
        x.change(1, 0, 8, KEEP, true);
        c.due("hand(0, 0)", x.hand(0, 0), 4);
        c.due("told(1, 0, 1): DECK 1 stood at PLACE 1 by then", x.told(1, 0, 1), 1);
        c.due("at(0, 0)", x.at(0, 0), 2);
    }
}
