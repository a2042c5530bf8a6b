/** Promise 1: a new object has no ITEMS, and ROOMS without DESKS; and the constants of the face. */
public final class NewObjectTest {
    public static void main(String[] args) {
        Checks c = new Checks();
        constants(c);
        MailRooms x = new MailRooms();
        c.due("out()", x.out(), MailRooms.NONE);
        c.due("refused()", x.refused(), 0);
        for (int what = 0; what <= 4; what++) {
            c.due("count(" + what + ")", x.count(what), 0);
        }
        for (int room = 0; room < 8; room++) {
            c.due("told(" + room + ", 0, 0)", x.told(room, 0, 0), MailRooms.BAD);
        }
        c.due("stamps(0)", x.stamps(0), 0);
        c.due("refused()", x.refused(), MailRooms.BAD);
        c.due("hand(0, 0)", x.hand(0, 0), MailRooms.BAD);
        apart(c);
        c.end();
    }

    private static void constants(Checks c) {
        c.due("NONE", MailRooms.NONE, -1);
        c.due("BAD", MailRooms.BAD, -2);
        c.due("FULL", MailRooms.FULL, -3);
        c.due("CAST", MailRooms.CAST, -4);
        c.due("INDEX", MailRooms.INDEX, -5);
        c.due("STORE", MailRooms.STORE, -6);
    }

    /** Two objects share nothing. */
    private static void apart(Checks c) {
        MailRooms one = new MailRooms();
        MailRooms other = new MailRooms();
        one.make(5, 0);
        one.desk(0, 5, 2, true);
        c.due("count(0) of the other", other.count(0), 0);
        c.due("told of the other", other.told(0, 0, 0), MailRooms.BAD);
        c.due("make of the other", other.make(7, 0), 0);
    }
}
