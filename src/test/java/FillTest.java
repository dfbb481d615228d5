import java.util.NoSuchElementException;

/** Promise 8: fill. */
public final class FillTest {
    public static void main(String[] args) {
        fills();
        changedOrders();
        whileOut();
        wrongArguments();
        Check.end();
    }

    private static void fills() {
        Side side = Side.loggedOn();
        side.deliver(Side.NEW, 2, 7, 2, 10);
        Check.same("a part", side.on().fill(7, 1), 1);
        side.sent("a part", "35=8|34=3|11=7|39=1|14=1|151=9|");
        side.order("a part", 7, 2, 10, 1, 1);
        Check.same("one more", side.on().fill(7, 8), 9);
        side.sent("one more", "35=8|34=4|11=7|39=1|14=9|151=1|");
        Check.same("the rest", side.on().fill(7, 1), 10);
        side.sent("the rest", "35=8|34=5|11=7|39=2|14=10|151=0|");
        side.order("the rest", 7, 2, 10, 10, 2);
        Check.throwing("it is filled", NoSuchElementException.class, () -> side.on().fill(7, 1));
        side.deliver(Side.CANCEL, 3, 8, 7, 0);
        side.sent("no CANCEL of it", "35=8|34=6|11=8|39=8|14=0|151=0|");
        side.deliver(Side.CHANGE, 4, 8, 7, 20);
        side.sent("no CHANGE of it", "35=8|34=7|11=8|39=8|14=0|151=0|");
        side.order("it stays", 7, 2, 10, 10, 2);
        Check.same("messages of orders", side.on().session(6), 3);
    }

    private static void changedOrders() {
        Side side = Side.loggedOn();
        side.deliver(Side.NEW, 2, 7, 1, 10);
        side.deliver(Side.NEW, 3, 17, 1, 10);
        side.deliver(Side.CHANGE, 4, 8, 7, 20);
        Check.throwing("its old id", NoSuchElementException.class, () -> side.on().fill(7, 1));
        Check.same("its new id", side.on().fill(8, 20), 20);
        side.sent("its new id", "35=8|34=5|11=8|39=2|14=20|151=0|");
        side.order("the other one", 17, 1, 10, 0, 0);
    }

    private static void whileOut() {
        Side side = Side.loggedOn();
        side.deliver(Side.NEW, 2, 7, 1, 10);
        side.deliver(Side.LOGOUT, 3, 0, 0, 0);
        Check.same("OUT", side.on().fill(7, 4), 4);
        side.sent("OUT");
        side.state("it has a number", 4, 5, 0, false);
        side.deliver(Side.LOGON, 4, 30, 0, 0);
        side.deliver(Side.RESEND, 5, 4, 4, 0);
        side.sent("it is stored", "35=8|34=4|43=Y|11=7|39=1|14=4|151=6|");
    }

    private static void wrongArguments() {
        Side side = Side.loggedOn();
        side.deliver(Side.NEW, 2, 7, 1, 10);
        side.on().fill(7, 4);
        wrong(side, "no such order", NoSuchElementException.class, 8, 1);
        wrong(side, "order 0", NoSuchElementException.class, 0, 1);
        wrong(side, "order -1", NoSuchElementException.class, -1, 1);
        wrong(side, "both wrong", NoSuchElementException.class, 8, 0);
        wrong(side, "0", IllegalArgumentException.class, 7, 0);
        wrong(side, "-1", IllegalArgumentException.class, 7, -1);
        wrong(side, "the lowest", IllegalArgumentException.class, 7, Integer.MIN_VALUE);
        wrong(side, "above what is left", IllegalArgumentException.class, 7, 7);
        wrong(side, "the highest", IllegalArgumentException.class, 7, Integer.MAX_VALUE);
        side.deliver(Side.CANCEL, 3, 9, 7, 0);
        Check.throwing("cancelled", NoSuchElementException.class, () -> side.on().fill(9, 1));
    }

    private static void wrong(Side side, String what, Class<? extends RuntimeException> due, int id, int quantity) {
        Check.throwing(what, due, () -> side.on().fill(id, quantity));
        side.order(what, 7, 1, 10, 4, 1);
        Check.same(what + ": NEXT", side.on().session(1), 4);
        Check.same(what + ": frames()", side.on().frames(), 1);
    }
}
