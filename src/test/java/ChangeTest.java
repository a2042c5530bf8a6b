/** Promise 10: change. */
public final class ChangeTest {
    public static void main(String[] args) {
        Checks c = new Checks();
        stays(c);
        bad(c);
        c.end();
    }

    private static void stays(Checks c) {
        MailRooms x = Checks.oneOfEach(2);
        x.desk(2, 0, 0, false);
        x.hand(0, 2);
        x.hand(7, 2);
        c.due("change to KEEP", x.change(2, 0, 5, 4, true), 1);
        c.due("refused()", x.refused(), 0);
        x.hand(5, 2);
        told(c, x, new int[] {2, 5, 2, 1, 7});
        c.due("change to STAMP, not asking", x.change(2, 0, 13, 2, false), 1);
        told(c, x, new int[] {2, 5, 2, 1, 7});
        c.due("hand(6, 2)", x.hand(6, 2), 1);
        c.due("stamps(6)", x.stamps(6), 2);
        c.due("hand(4, 2), no longer asking", x.hand(4, 2), 0);
        c.due("out()", x.out(), MailRooms.NONE);
        told(c, x, new int[] {2, 5, 3, 2, 4});
        x.change(2, 0, 13, 2, true);
        c.due("hand(4, 2), asking again", x.hand(4, 2), 0);
        c.due("out()", x.out(), 4);
        x.change(2, 0, 4, 4, true);
        x.hand(4, 2);
        c.due("what was held goes on, though it IS not of the new FORM", x.out(), 5);
        told(c, x, new int[] {2, 4, 4, 2, 4});
    }

    private static void told(Checks c, MailRooms x, int[] want) {
        for (int what = 0; what <= 4; what++) {
            c.due("told(2, 0, " + what + ")", x.told(2, 0, what), want[what]);
        }
    }

    private static void bad(Checks c) {
        MailRooms x = Checks.oneOfEach(1);
        x.desk(1, 5, 2, true);
        for (int edge : new int[] {Integer.MIN_VALUE, -1, 14, Integer.MAX_VALUE}) {
            c.due("change of room " + edge, x.change(edge, 0, 0, 0, false), MailRooms.BAD);
            c.due("change of desk " + edge, x.change(1, edge, 0, 0, false), MailRooms.BAD);
            c.due("change to form " + edge, x.change(1, 0, edge, 0, false), MailRooms.BAD);
            c.due("change to act " + edge, x.change(1, 0, 0, edge, false), MailRooms.BAD);
            c.due("refused()", x.refused(), MailRooms.BAD);
        }
        c.due("change of room 8", x.change(8, 0, 0, 0, false), MailRooms.BAD);
        c.due("change of a DESK that is not there", x.change(1, 1, 0, 0, false), MailRooms.BAD);
        c.due("change in a ROOM without DESKS", x.change(0, 0, 0, 0, false), MailRooms.BAD);
        c.due("change to act 5", x.change(1, 0, 0, 5, false), MailRooms.BAD);
        c.due("hand(5, 1), as before", x.hand(5, 1), 1);
        c.due("stamps(5)", x.stamps(5), 1);
        c.due("hand(0, 1), still asking", x.hand(0, 1), 0);
        c.due("out()", x.out(), 0);
    }
}
