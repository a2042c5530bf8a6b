/** Promise 2: make. */
public final class MakeTest {
    public static void main(String[] args) {
        Checks c = new Checks();
        numbers(c);
        sizes(c);
        firstContents(c);
        full(c);
        c.end();
    }

    private static void numbers(Checks c) {
        MailRooms x = new MailRooms();
        for (int kind = 0; kind <= 12; kind++) {
            c.due("make(" + kind + ", 0)", x.make(kind, 0), kind);
            c.due("refused()", x.refused(), 0);
        }
        for (int kind : new int[] {-1, 13, 14, Integer.MIN_VALUE, Integer.MAX_VALUE}) {
            c.due("make(" + kind + ", 1)", x.make(kind, 1), MailRooms.BAD);
            c.due("refused()", x.refused(), MailRooms.BAD);
        }
        c.due("count(0)", x.count(0), 13);
        c.due("make(5, 0) after refusals", x.make(5, 0), 13);
    }

    private static void sizes(Checks c) {
        int[] wrongSizes = {-1, 4, Integer.MIN_VALUE, Integer.MAX_VALUE};
        for (int kind = 0; kind <= 12; kind++) {
            boolean row = kind < 5 || kind > 7;
            MailRooms x = new MailRooms();
            int made = 0;
            for (int n : wrongSizes) {
                c.due("make(" + kind + ", " + n + ")", x.make(kind, n), row ? MailRooms.BAD : made++);
            }
            for (int n = 0; n <= 3; n++) {
                c.due("make(" + kind + ", " + n + ")", x.make(kind, n), made++);
            }
            if (row) {
                hasPlaces(c, kind);
            }
        }
    }

    private static void hasPlaces(Checks c, int kind) {
        for (int n = 0; n <= 3; n++) {
            MailRooms x = new MailRooms();
            x.make(kind, n);
            for (int i = -1; i <= 4; i++) {
                boolean there = i >= 0 && i < n;
                if (kind < 4) {
                    c.due("put at " + i + " of " + n, x.put(0, i, 1), there ? 1 : MailRooms.INDEX);
                } else {
                    c.due("at " + i + " of " + n, x.at(0, i), there ? MailRooms.NONE : MailRooms.INDEX);
                }
            }
        }
    }

    private static void firstContents(Checks c) {
        MailRooms x = Checks.oneOfEach(3);
        for (int kind = 0; kind <= 12; kind++) {
            for (int i = 0; i < 3; i++) {
                if (kind < 4) {
                    c.due("get(" + kind + ", " + i + ")", x.get(kind, i), 0);
                } else if (kind == 4 || kind > 7) {
                    c.due("at(" + kind + ", " + i + ")", x.at(kind, i), MailRooms.NONE);
                }
            }
            if (kind >= 5 && kind <= 7) {
                c.due("stamps(" + kind + ")", x.stamps(kind), 0);
                c.due("refused()", x.refused(), 0);
            }
        }
    }

    private static void full(Checks c) {
        MailRooms x = new MailRooms();
        for (int k = 0; k < 60; k++) {
            c.due("make number " + k, x.make(k % 13, 2), k);
        }
        c.due("make one too many", x.make(0, 0), MailRooms.FULL);
        c.due("refused()", x.refused(), MailRooms.FULL);
        c.due("make of a wrong kind, BAD ahead of FULL", x.make(13, 0), MailRooms.BAD);
        c.due("make of a wrong size, BAD ahead of FULL", x.make(0, 4), MailRooms.BAD);
        c.due("count(0)", x.count(0), 60);
        c.due("is(59, 59 % 13)", x.is(59, 59 % 13), 1);
        c.due("is(60, 0)", x.is(60, 0), MailRooms.BAD);
    }
}
