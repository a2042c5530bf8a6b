/** Promise 7: is. */
public final class IsTest {
    /** The FORMS that each KIND IS of. */
    private static final int[][] FORMS = {
        {0}, {1}, {2}, {3}, {4}, {5, 13}, {5, 6, 13}, {7, 13}, {8, 10}, {8, 9, 10}, {10}, {11}, {11, 12},
    };

    public static void main(String[] args) {
        Checks c = new Checks();
        MailRooms x = Checks.oneOfEach(1);
        for (int kind = 0; kind <= 12; kind++) {
            for (int form = 0; form <= 13; form++) {
                int want = 0;
                for (int its : FORMS[kind]) {
                    want = its == form ? 1 : want;
                }
                c.due("is(" + kind + ", " + form + ")", x.is(kind, form), want);
                c.due("refused()", x.refused(), 0);
            }
        }
        for (int wrong : new int[] {-1, 14, Integer.MIN_VALUE, Integer.MAX_VALUE}) {
            c.due("is(5, " + wrong + ")", x.is(5, wrong), MailRooms.BAD);
            c.due("refused()", x.refused(), MailRooms.BAD);
        }
        for (int wrong : new int[] {-1, 13, Integer.MIN_VALUE, Integer.MAX_VALUE}) {
            c.due("is(" + wrong + ", 5)", x.is(wrong, 5), MailRooms.BAD);
            c.due("refused()", x.refused(), MailRooms.BAD);
        }
        c.end();
    }
}
