/** Promise 15: refused. */
public final class RefusedTest {
    public static void main(String[] args) {
        Checks c = new Checks();
        eachReason(c);
        clearedByEachCall(c);
        c.end();
    }

    private static void eachReason(Checks c) {
        MailRooms x = Checks.oneOfEach(1);
        x.lay(9, 0, 5);
        stays(c, x, MailRooms.STORE);
        x.lay(9, 1, 6);
        stays(c, x, MailRooms.INDEX);
        x.lay(9, 0, 7);
        stays(c, x, MailRooms.CAST);
        x.lay(9, 0, 13);
        stays(c, x, MailRooms.BAD);
        for (int k = 0; k < 5; k++) {
            x.desk(0, 0, 0, true);
        }
        stays(c, x, MailRooms.FULL);
    }

    /** out(), told(), count() and refused() itself leave the reason as it is, refused or not. */
    private static void stays(Checks c, MailRooms x, int why) {
        c.due("refused()", x.refused(), why);
        x.out();
        c.due("refused() after out()", x.refused(), why);
        x.told(0, 0, 0);
        x.told(9, 9, 9);
        c.due("refused() after told()", x.refused(), why);
        x.count(0);
        x.count(9);
        c.due("refused() after count()", x.refused(), why);
    }

    private static void clearedByEachCall(Checks c) {
        MailRooms x = Checks.oneOfEach(1);
        x.desk(0, 0, 0, true);
        for (int call = 0; call < 10; call++) {
            x.make(99, 0);
            c.due("refused()", x.refused(), MailRooms.BAD);
            accepted(x, call);
            c.due("refused() after accepted call " + call, x.refused(), 0);
        }
    }

    private static void accepted(MailRooms x, int call) {
        switch (call) {
            case 0 -> x.make(5, 0);
            case 1 -> x.put(0, 0, 1);
            case 2 -> x.get(0, 0);
            case 3 -> x.lay(8, 0, 5);
            case 4 -> x.at(8, 0);
            case 5 -> x.is(0, 13);
            case 6 -> x.stamps(5);
            case 7 -> x.desk(1, 0, 0, true);
            case 8 -> x.change(0, 0, 1, 1, false);
            default -> x.hand(0, 7);
        }
    }
}
