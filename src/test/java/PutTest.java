/** Promise 3: put. */
public final class PutTest {
    public static void main(String[] args) {
        Checks c = new Checks();
        MailRooms x = Checks.oneOfEach(3);
        keeps(c, x, 0, new int[][] {{0, 0}, {1, 1}, {65535, 65535}, {65536, 0}, {-1, 65535}, {70000, 4464},
            {Integer.MIN_VALUE, 0}, {Integer.MAX_VALUE, 65535}});
        keeps(c, x, 1, new int[][] {{0, 0}, {32767, 32767}, {32768, -32768}, {-32768, -32768}, {-32769, 32767},
            {65535, -1}, {Integer.MIN_VALUE, 0}, {Integer.MAX_VALUE, -1}});
        keeps(c, x, 2, new int[][] {{0, 0}, {1, 1}, {-1, -1}, {7, 7}, {-9, -9}, {1000003, 1000003},
            {Integer.MIN_VALUE, Integer.MIN_VALUE}, {Integer.MAX_VALUE, Integer.MAX_VALUE}});
        keeps(c, x, 3, new int[][] {{0, 0}, {1, 1}, {2, 1}, {-1, 1}, {65536, 1}, {Integer.MIN_VALUE, 1}});
        placesApart(c);
        refusals(c, x);
        c.end();
    }

    private static void keeps(Checks c, MailRooms x, int kind, int[][] putAndGot) {
        for (int[] pair : putAndGot) {
            for (int i = 0; i < 3; i++) {
                c.due("put(" + kind + ", " + i + ", " + pair[0] + ")", x.put(kind, i, pair[0]), 1);
                c.due("refused()", x.refused(), 0);
                c.due("get of " + pair[0] + " in " + kind, x.get(kind, i), pair[1]);
            }
        }
    }

    private static void placesApart(Checks c) {
        MailRooms x = new MailRooms();
        x.make(0, 3);
        x.make(0, 3);
        x.put(0, 1, 5);
        c.due("get(0, 0)", x.get(0, 0), 0);
        c.due("get(0, 1)", x.get(0, 1), 5);
        c.due("get(0, 2)", x.get(0, 2), 0);
        c.due("get(1, 1)", x.get(1, 1), 0);
    }

    private static void refusals(Checks c, MailRooms x) {
        for (int item : new int[] {-1, 13, 60, Integer.MIN_VALUE, Integer.MAX_VALUE}) {
            c.due("put(" + item + ", 9, 1)", x.put(item, 9, 1), MailRooms.BAD);
            c.due("refused()", x.refused(), MailRooms.BAD);
        }
        for (int item = 4; item <= 12; item++) {
            c.due("put(" + item + ", 0, 1)", x.put(item, 0, 1), MailRooms.CAST);
            c.due("put(" + item + ", 9, 1), CAST ahead of INDEX", x.put(item, 9, 1), MailRooms.CAST);
            c.due("refused()", x.refused(), MailRooms.CAST);
        }
        for (int item = 0; item <= 3; item++) {
            x.put(item, 0, 1);
            for (int i : new int[] {-1, 3, Integer.MIN_VALUE, Integer.MAX_VALUE}) {
                c.due("put(" + item + ", " + i + ", 0)", x.put(item, i, 0), MailRooms.INDEX);
                c.due("refused()", x.refused(), MailRooms.INDEX);
            }
            c.due("get(" + item + ", 0) after refusals", x.get(item, 0), 1);
        }
        MailRooms empty = Checks.oneOfEach(0);
        c.due("put into a row without PLACES", empty.put(0, 0, 1), MailRooms.INDEX);
    }
}
