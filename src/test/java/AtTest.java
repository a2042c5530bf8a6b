/** Promise 6: at. */
public final class AtTest {
    public static void main(String[] args) {
        Checks c = new Checks();
        MailRooms x = Checks.oneOfEach(2);
        int[][] rowAndThing = {{4, 0}, {8, 5}, {9, 6}, {10, 7}, {11, 8}, {12, 9}};
        for (int[] pair : rowAndThing) {
            x.lay(pair[0], 0, pair[1]);
            c.due("at(" + pair[0] + ", 0)", x.at(pair[0], 0), pair[1]);
            c.due("refused()", x.refused(), 0);
            x.lay(99, 0, 0);
            c.due("at(" + pair[0] + ", 1)", x.at(pair[0], 1), MailRooms.NONE);
            c.due("refused()", x.refused(), 0);
            for (int i : new int[] {-1, 2, Integer.MIN_VALUE, Integer.MAX_VALUE}) {
                c.due("at(" + pair[0] + ", " + i + ")", x.at(pair[0], i), MailRooms.INDEX);
                c.due("refused()", x.refused(), MailRooms.INDEX);
            }
        }
        for (int item : new int[] {0, 1, 2, 3, 5, 6, 7}) {
            c.due("at(" + item + ", 0)", x.at(item, 0), MailRooms.CAST);
            c.due("at(" + item + ", 9)", x.at(item, 9), MailRooms.CAST);
            c.due("refused()", x.refused(), MailRooms.CAST);
        }
        for (int item : new int[] {-1, 13, Integer.MIN_VALUE, Integer.MAX_VALUE}) {
            c.due("at(" + item + ", 0)", x.at(item, 0), MailRooms.BAD);
            c.due("refused()", x.refused(), MailRooms.BAD);
        }
        c.end();
    }
}
