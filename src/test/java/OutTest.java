/** Promise 12: out. */
public final class OutTest {
    public static void main(String[] args) {
        Checks c = new Checks();
        MailRooms x = Checks.oneOfEach(2);
        c.due("out() ahead of any hand()", x.out(), MailRooms.NONE);
        x.hand(7, 4);
        c.due("out() of a ROOM without DESKS", x.out(), 7);
        x.desk(0, 5, 2, false);
        x.hand(5, 0);
        c.due("out() of what was WORKED on", x.out(), 5);
        x.hand(99, 0);
        c.due("out() after a refused hand()", x.out(), 5);
        x.hand(5, 8);
        c.due("out() after a refused hand()", x.out(), 5);
        x.make(0, 1);
        x.told(0, 0, 0);
        c.due("out() after other calls", x.out(), 5);
        x.hand(7, 0);
        c.due("out() of what was GIVEN BACK", x.out(), MailRooms.NONE);
        x.desk(1, 8, 3, true);
        x.desk(2, 13, 2, true);
        x.lay(8, 0, 5);
        x.hand(8, 1);
        c.due("out() is not of what was SPLIT", x.out(), 8);
        x.desk(1, 8, 4, true);
        x.hand(8, 1);
        c.due("out() of what was kept", x.out(), MailRooms.NONE);
        x.hand(9, 1);
        c.due("out() of what was let go", x.out(), 8);
        x.hand(0, 1);
        c.due("out() of what was asked and let on", x.out(), 0);
        c.end();
    }
}
