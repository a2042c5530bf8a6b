/** Promise 8: stamps. */
public final class StampsTest {
    public static void main(String[] args) {
        Checks c = new Checks();
        MailRooms x = Checks.oneOfEach(1);
        x.desk(0, 13, 2, true);
        for (int times = 1; times <= 3; times++) {
            x.hand(5, 0);
            x.hand(6, 0);
            x.hand(7, 0);
            c.due("stamps of a CARD", x.stamps(5), times);
            c.due("stamps of a GOLD CARD", x.stamps(6), 2 * times);
            c.due("stamps of a TOKEN", x.stamps(7), times);
            c.due("refused()", x.refused(), 0);
        }
        for (int item : new int[] {0, 1, 2, 3, 4, 8, 9, 10, 11, 12}) {
            c.due("stamps(" + item + ")", x.stamps(item), 0);
            c.due("refused()", x.refused(), MailRooms.CAST);
        }
        for (int item : new int[] {-1, 13, Integer.MIN_VALUE, Integer.MAX_VALUE}) {
            c.due("stamps(" + item + ")", x.stamps(item), 0);
            c.due("refused()", x.refused(), MailRooms.BAD);
        }
        c.end();
    }
}
