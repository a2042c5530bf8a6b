/** Promise 5: lay. */
public final class LayTest {
    private static final int B = MailRooms.BAD, C = MailRooms.CAST, S = MailRooms.STORE;

    /** What lay() answers, a row for each KIND laid upon, a column for each KIND that is laid. */
    private static final int[][] ANSWERS = {
        {C, C, C, C, C, C, C, C, C, C, C, C, C},
        {C, C, C, C, C, C, C, C, C, C, C, C, C},
        {C, C, C, C, C, C, C, C, C, C, C, C, C},
        {C, C, C, C, C, C, C, C, C, C, C, C, C},
        {1, C, C, C, C, C, C, C, C, C, C, C, C},
        {C, C, C, C, C, C, C, C, C, C, C, C, C},
        {C, C, C, C, C, C, C, C, C, C, C, C, C},
        {C, C, C, C, C, C, C, C, C, C, C, C, C},
        {C, C, C, C, C, 1, 1, C, C, C, C, C, C},
        {C, C, C, C, C, S, 1, C, C, C, C, C, C},
        {C, C, C, C, C, 1, 1, 1, C, C, C, C, C},
        {C, C, C, C, C, C, C, C, 1, 1, C, C, C},
        {C, C, C, C, C, C, C, C, S, 1, C, C, C},
    };

    public static void main(String[] args) {
        Checks c = new Checks();
        everyPair(c);
        nothing(c);
        order(c);
        bad(c);
        c.end();
    }

    private static void everyPair(Checks c) {
        for (int row = 0; row <= 12; row++) {
            MailRooms x = Checks.oneOfEach(2);
            for (int thing = 0; thing <= 12; thing++) {
                int want = ANSWERS[row][thing];
                String call = "lay(" + row + ", 1, " + thing + ")";
                x.lay(row, 1, MailRooms.NONE);
                c.due(call, x.lay(row, 1, thing), want);
                c.due("refused() of " + call, x.refused(), want == 1 ? 0 : want);
                if (row == 4 || row > 7) {
                    c.due("at after " + call, x.at(row, 1), want == 1 ? thing : MailRooms.NONE);
                    c.due("the other PLACE after " + call, x.at(row, 0), MailRooms.NONE);
                }
            }
        }
    }

    private static void nothing(Checks c) {
        MailRooms x = Checks.oneOfEach(1);
        int[][] rowAndThing = {{4, 0}, {8, 5}, {9, 6}, {10, 7}, {11, 8}, {12, 9}};
        for (int[] pair : rowAndThing) {
            x.lay(pair[0], 0, pair[1]);
            c.due("at(" + pair[0] + ", 0)", x.at(pair[0], 0), pair[1]);
            c.due("lay(" + pair[0] + ", 0, NONE)", x.lay(pair[0], 0, MailRooms.NONE), 1);
            c.due("refused()", x.refused(), 0);
            c.due("at(" + pair[0] + ", 0)", x.at(pair[0], 0), MailRooms.NONE);
            c.due("lay(" + pair[0] + ", 1, NONE)", x.lay(pair[0], 1, MailRooms.NONE), MailRooms.INDEX);
        }
        for (int item : new int[] {0, 1, 2, 3, 5, 6, 7}) {
            c.due("lay(" + item + ", 0, NONE)", x.lay(item, 0, MailRooms.NONE), C);
        }
    }

    private static void order(Checks c) {
        MailRooms x = Checks.oneOfEach(2);
        for (int i : new int[] {-1, 2, Integer.MIN_VALUE, Integer.MAX_VALUE}) {
            c.due("BAD ahead of CAST", x.lay(0, i, 13), B);
            c.due("CAST ahead of INDEX", x.lay(9, i, 7), C);
            c.due("INDEX ahead of STORE in a GOLD DECK", x.lay(9, i, 5), MailRooms.INDEX);
            c.due("INDEX ahead of STORE in a GOLD ALBUM", x.lay(12, i, 8), MailRooms.INDEX);
            c.due("INDEX", x.lay(8, i, 5), MailRooms.INDEX);
        }
        x.lay(9, 0, 6);
        c.due("STORE over what lies there", x.lay(9, 0, 5), S);
        c.due("at(9, 0) as before", x.at(9, 0), 6);
        c.due("the same twice", x.lay(9, 1, 6), 1);
        c.due("at(9, 0)", x.at(9, 0), 6);
        c.due("at(9, 1)", x.at(9, 1), 6);
    }

    private static void bad(Checks c) {
        MailRooms x = Checks.oneOfEach(1);
        for (int item : new int[] {-1, -2, 13, 60, Integer.MIN_VALUE, Integer.MAX_VALUE}) {
            c.due("lay(" + item + ", 0, 5)", x.lay(item, 0, 5), B);
            c.due("lay(" + item + ", 0, NONE)", x.lay(item, 0, MailRooms.NONE), B);
            c.due("lay(8, 0, " + item + ")", x.lay(8, 0, item), item == MailRooms.NONE ? 1 : B);
            c.due("refused()", x.refused(), item == MailRooms.NONE ? 0 : B);
        }
    }
}
