/** Promise 4: get. */
public final class GetTest {
    public static void main(String[] args) {
        Checks c = new Checks();
        lengthsAtTheEnd(c);
        minusNumbersAreNoRefusals(c);
        refusals(c);
        c.end();
    }

    private static void lengthsAtTheEnd(Checks c) {
        MailRooms x = new MailRooms();
        x.make(2, 3);
        x.desk(0, 2, 2, true);
        x.put(0, 0, Integer.MAX_VALUE);
        x.put(0, 1, Integer.MIN_VALUE);
        x.put(0, 2, -1);
        x.hand(0, 0);
        c.due("a LENGTH above the greatest int", x.get(0, 0), Integer.MAX_VALUE);
        c.due("a LENGTH above the least int", x.get(0, 1), Integer.MIN_VALUE + 1);
        c.due("a LENGTH grown to 0", x.get(0, 2), 0);
        x.hand(0, 0);
        c.due("a LENGTH further above", x.get(0, 0), Integer.MAX_VALUE);
        c.due("a LENGTH grown twice", x.get(0, 2), 1);
    }

    private static void minusNumbersAreNoRefusals(Checks c) {
        MailRooms x = new MailRooms();
        x.make(1, 1);
        x.make(2, 1);
        for (int v = -7; v < 0; v++) {
            x.put(0, 0, v);
            x.put(1, 0, v);
            c.due("get of the TALLY " + v, x.get(0, 0), v);
            c.due("refused()", x.refused(), 0);
            c.due("get of the LENGTH " + v, x.get(1, 0), v);
            c.due("refused()", x.refused(), 0);
        }
        c.due("count(1)", x.count(1), 0);
        c.due("count(2)", x.count(2), 0);
    }

    private static void refusals(Checks c) {
        MailRooms x = Checks.oneOfEach(2);
        for (int item = 0; item < 4; item++) {
            x.put(item, 0, 1);
            x.put(item, 1, 1);
        }
        for (int item : new int[] {-1, 13, Integer.MIN_VALUE, Integer.MAX_VALUE}) {
            refused(c, x, item, 0, MailRooms.BAD);
            refused(c, x, item, 7, MailRooms.BAD);
        }
        for (int item = 4; item <= 12; item++) {
            refused(c, x, item, 0, MailRooms.CAST);
            refused(c, x, item, 7, MailRooms.CAST);
        }
        for (int item = 0; item < 4; item++) {
            for (int i : new int[] {-1, 2, Integer.MIN_VALUE, Integer.MAX_VALUE}) {
                refused(c, x, item, i, MailRooms.INDEX);
            }
            c.due("get(" + item + ", 1)", x.get(item, 1), 1);
            c.due("refused()", x.refused(), 0);
        }
    }

    private static void refused(Checks c, MailRooms x, int item, int i, int why) {
        c.due("get(" + item + ", " + i + ")", x.get(item, i), 0);
        c.due("refused() of get(" + item + ", " + i + ")", x.refused(), why);
    }
}
