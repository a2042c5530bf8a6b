/** Promise 14: count. */
public final class CountTest {
    public static void main(String[] args) {
        Checks c = new Checks();
        MailRooms x = Checks.oneOfEach(1);
        counts(c, x, 13, 0, 0, 0, 0);
        x.make(13, 0);
        x.put(99, 0, 0);
        x.lay(8, 0, 99);
        counts(c, x, 13, 0, 0, 0, 0);
        x.put(5, 0, 0);
        x.get(5, 0);
        x.lay(8, 0, 7);
        x.lay(0, 0, 7);
        x.at(0, 0);
        x.stamps(0);
        counts(c, x, 13, 6, 0, 0, 0);
        x.put(0, 1, 0);
        x.get(0, -1);
        x.lay(8, 1, 5);
        x.at(8, 1);
        counts(c, x, 13, 6, 4, 0, 0);
        x.lay(9, 0, 5);
        x.lay(12, 0, 8);
        x.lay(9, 1, 5);
        counts(c, x, 13, 6, 5, 2, 0);
        x.desk(0, 5, 0, false);
        x.desk(1, 7, 0, false);
        x.hand(7, 0);
        x.hand(5, 1);
        x.hand(5, 0);
        x.hand(0, 0);
        counts(c, x, 13, 6, 5, 2, 3);
        x.make(0, 0);
        counts(c, x, 14, 6, 5, 2, 3);
        for (int what : new int[] {Integer.MIN_VALUE, -1, 5, Integer.MAX_VALUE}) {
            c.due("count(" + what + ")", x.count(what), MailRooms.BAD);
        }
        c.due("refused() is not of count()", x.refused(), 0);
        c.end();
    }

    private static void counts(Checks c, MailRooms x, int... want) {
        for (int what = 0; what <= 4; what++) {
            c.due("count(" + what + ")", x.count(what), want[what]);
        }
    }
}
