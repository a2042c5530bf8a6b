/** Promise 13: told. */
public final class ToldTest {
    public static void main(String[] args) {
        Checks c = new Checks();
        MailRooms x = Checks.oneOfEach(3);
        x.desk(7, 4, 1, true);
        x.desk(7, 10, 0, false);
        x.desk(7, 8, 4, true);
        told(c, x, 1, new int[] {0, -1, 0, 0, -1});
        told(c, x, 2, new int[] {0, -1, 0, 0, -1});
        x.hand(8, 7);
        told(c, x, 1, new int[] {3, -1, 1, 0, -1});
        told(c, x, 2, new int[] {0, 8, 1, 0, -1});
        x.hand(10, 7);
        told(c, x, 1, new int[] {6, -1, 2, 0, -1});
        told(c, x, 2, new int[] {0, 8, 1, 0, -1});
        x.hand(0, 7);
        told(c, x, 1, new int[] {6, -1, 2, 1, 0});
        x.hand(12, 7);
        told(c, x, 1, new int[] {6, -1, 2, 2, 12});
        told(c, x, 0, new int[] {0, -1, 0, 0, -1});
        x.hand(9, 7);
        told(c, x, 1, new int[] {9, -1, 3, 2, 12});
        told(c, x, 2, new int[] {0, 9, 2, 0, -1});
        bad(c, x);
        c.end();
    }

    private static void told(Checks c, MailRooms x, int desk, int[] want) {
        for (int what = 0; what <= 4; what++) {
            c.due("told(7, " + desk + ", " + what + ")", x.told(7, desk, what), want[what]);
        }
    }

    private static void bad(Checks c, MailRooms x) {
        x.make(0, 0);
        for (int edge : new int[] {Integer.MIN_VALUE, -1, 8, Integer.MAX_VALUE}) {
            c.due("told(" + edge + ", 0, 0)", x.told(edge, 0, 0), MailRooms.BAD);
            c.due("told(7, " + edge + ", 0)", x.told(7, edge, 0), MailRooms.BAD);
            c.due("told(7, 0, " + edge + ")", x.told(7, 0, edge), MailRooms.BAD);
        }
        c.due("told(7, 3, 0)", x.told(7, 3, 0), MailRooms.BAD);
        c.due("told(7, 4, 0)", x.told(7, 4, 0), MailRooms.BAD);
        c.due("told(6, 0, 0)", x.told(6, 0, 0), MailRooms.BAD);
        c.due("told(7, 0, 5)", x.told(7, 0, 5), MailRooms.BAD);
        c.due("refused() is not of told()", x.refused(), 0);
    }
}
