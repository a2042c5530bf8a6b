/** Promise 9: desk. */
public final class DeskTest {
    public static void main(String[] args) {
        Checks c = new Checks();
        fill(c);
        bad(c);
        fresh(c);
        everyFormAndAct(c);
        c.end();
    }

    private static void fill(Checks c) {
        MailRooms x = new MailRooms();
        for (int room = 0; room < 8; room++) {
            for (int desk = 0; desk < 4; desk++) {
                c.due("desk " + desk + " of " + room, x.desk(room, 13, 0, desk % 2 == 0), desk);
                c.due("refused()", x.refused(), 0);
            }
            c.due("a fifth desk of " + room, x.desk(room, 13, 0, true), MailRooms.FULL);
            c.due("refused()", x.refused(), MailRooms.FULL);
            c.due("BAD ahead of FULL, form", x.desk(room, 14, 0, true), MailRooms.BAD);
            c.due("BAD ahead of FULL, act", x.desk(room, 0, 5, true), MailRooms.BAD);
            c.due("told of a fifth desk", x.told(room, 4, 0), MailRooms.BAD);
        }
    }

    private static void bad(Checks c) {
        MailRooms x = new MailRooms();
        for (int edge : new int[] {Integer.MIN_VALUE, -1, Integer.MAX_VALUE}) {
            c.due("desk of room " + edge, x.desk(edge, 0, 0, true), MailRooms.BAD);
            c.due("desk with form " + edge, x.desk(0, edge, 0, true), MailRooms.BAD);
            c.due("desk with act " + edge, x.desk(0, 0, edge, true), MailRooms.BAD);
            c.due("refused()", x.refused(), MailRooms.BAD);
        }
        c.due("desk of room 8", x.desk(8, 0, 0, true), MailRooms.BAD);
        c.due("desk with form 14", x.desk(0, 14, 0, true), MailRooms.BAD);
        c.due("desk with act 5", x.desk(0, 0, 5, true), MailRooms.BAD);
        c.due("the first desk after refusals", x.desk(0, 0, 0, true), 0);
    }

    private static void fresh(Checks c) {
        MailRooms x = new MailRooms();
        x.desk(3, 0, 0, false);
        int[] want = {0, MailRooms.NONE, 0, 0, MailRooms.NONE};
        for (int what = 0; what <= 4; what++) {
            c.due("told(3, 0, " + what + ") of a new DESK", x.told(3, 0, what), want[what]);
        }
    }

    /** A DESK works on exactly what IS of its FORM, whatever its ACT. */
    private static void everyFormAndAct(Checks c) {
        for (int form = 0; form <= 13; form++) {
            for (int act = 0; act <= 4; act++) {
                MailRooms x = Checks.oneOfEach(1);
                c.due("desk(0, " + form + ", " + act + ", true)", x.desk(0, form, act, true), 0);
                for (int item = 0; item <= 12; item++) {
                    int works = x.is(item, form);
                    c.due("hand(" + item + ", 0) to form " + form + ", act " + act, x.hand(item, 0), works);
                }
            }
        }
    }
}
