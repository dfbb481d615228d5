import java.util.NoSuchElementException;

/** Promise 8: fill. */
public final class FillTest {
    public static void main(String[] args) {
        fills();
        changedOrders();
        whileOut();
        upToWhatIsLeft();
        everyState();
        wrongArguments();
        Check.end();
    }

    private static void fills() {
        Side side = Side.loggedOn();
        side.deliver(Side.NEW, 2, 7, 2, 10);
        Check.same("a part", side.on().fill(7, 1), 1);
        side.sent("a part", "35=8|34=3|11=7|39=1|14=1|151=9|");
        side.order("a part", 7, 2, 10, 1, 1);
        Check.same("one more", side.on().fill(7, 8), 9);
        side.sent("one more", "35=8|34=4|11=7|39=1|14=9|151=1|");
        Check.same("the rest", side.on().fill(7, 1), 10);
        side.sent("the rest", "35=8|34=5|11=7|39=2|14=10|151=0|");
        side.order("the rest", 7, 2, 10, 10, 2);
        Check.throwing("it is filled", NoSuchElementException.class, () -> side.on().fill(7, 1));
        side.deliver(Side.CANCEL, 3, 8, 7, 0);
        side.sent("no CANCEL of it", "35=8|34=6|11=8|39=8|14=0|151=0|");
        side.deliver(Side.CHANGE, 4, 8, 7, 20);
        side.sent("no CHANGE of it", "35=8|34=7|11=8|39=8|14=0|151=0|");
        side.order("it stays", 7, 2, 10, 10, 2);
        Check.same("messages of orders", side.on().session(6), 3);
    }

    private static void changedOrders() {
        Side side = Side.loggedOn();
        side.deliver(Side.NEW, 2, 7, 1, 10);
        side.deliver(Side.NEW, 3, 17, 1, 10);
        side.deliver(Side.CHANGE, 4, 8, 7, 20);
        Check.throwing("its old id", NoSuchElementException.class, () -> side.on().fill(7, 1));
        Check.same("its new id", side.on().fill(8, 20), 20);
        side.sent("its new id", "35=8|34=5|11=8|39=2|14=20|151=0|");
        side.order("the other one", 17, 1, 10, 0, 0);
    }

    private static void whileOut() {
        Side side = Side.loggedOn();
        side.deliver(Side.NEW, 2, 7, 1, 10);
        side.deliver(Side.LOGOUT, 3, 0, 0, 0);
        Check.same("OUT", side.on().fill(7, 4), 4);
        side.sent("OUT");
        side.state("it has a number", 4, 5, 0, false);
        side.deliver(Side.LOGON, 4, 30, 0, 0);
        side.deliver(Side.RESEND, 5, 4, 4, 0);
        side.sent("it is stored", "35=8|34=4|43=Y|11=7|39=1|14=4|151=6|");
    }

    private static void upToWhatIsLeft() {
        for (int quantity : new int[] {1, 2, 10, 999999}) {
            for (int filled : new int[] {0, 1, quantity / 2, quantity - 1}) {
                int left = quantity - filled;
                if (left == 0) {
                    continue;
                }
                Side side = Side.loggedOn();
                side.deliver(Side.NEW, 2, 7, 1, quantity);
                if (filled > 0) {
                    Check.same("before", side.on().fill(7, filled), filled);
                }
                int next = side.on().session(1);
                String what = filled + " of " + quantity;
                Check.throwing(what + ": 0", IllegalArgumentException.class, () -> side.on().fill(7, 0));
                Check.throwing(what + ": one too many", IllegalArgumentException.class, () -> side.on().fill(7, left + 1));
                Check.same(what + ": NEXT", side.on().session(1), next);
                side.order(what, 7, 1, quantity, filled, filled > 0 ? 1 : 0);
                Check.same(what + ": the rest", side.on().fill(7, left), quantity);
                side.sent(what, "35=8|34=" + next + "|11=7|39=2|14=" + quantity + "|151=0|");
                side.order(what, 7, 1, quantity, quantity, 2);
                Check.throwing(what + ": no more", NoSuchElementException.class, () -> side.on().fill(7, 1));
                Check.throwing(what + ": nor 0", NoSuchElementException.class, () -> side.on().fill(7, 0));
            }
        }
        oneByOne();
    }

    private static void oneByOne() {
        Side side = Side.loggedOn();
        side.deliver(Side.NEW, 2, 7, 1, 100);
        for (int filled = 1; filled <= 100; filled++) {
            Check.same("fill", side.on().fill(7, 1), filled);
            Check.same("state", side.on().order(7, 3), filled < 100 ? 1 : 2);
        }
        Check.throwing("no more", NoSuchElementException.class, () -> side.on().fill(7, 1));
    }

    /** Only open orders, also partly filled ones, can be filled; one that was changed has its new id alone. */
    private static void everyState() {
        Side side = Side.loggedOn();
        side.deliver(Side.NEW, 2, 1, 1, 10);
        side.deliver(Side.NEW, 3, 2, 1, 10);
        side.deliver(Side.NEW, 4, 3, 1, 10);
        side.deliver(Side.NEW, 5, 4, 1, 10);
        side.on().fill(2, 5);
        side.on().fill(3, 10);
        side.deliver(Side.CANCEL, 6, 5, 4, 0);
        side.deliver(Side.NEW, 7, 6, 3, 10);
        for (int id : new int[] {Integer.MIN_VALUE, -1, 0, 3, 4, 5, 6, 7, 999999, 1000000, Integer.MAX_VALUE}) {
            Check.throwing("id " + id, NoSuchElementException.class, () -> side.on().fill(id, 1));
        }
        Check.same("an open one", side.on().fill(1, 1), 1);
        Check.same("a partly filled one", side.on().fill(2, 1), 6);
        side.deliver(Side.CHANGE, 8, 8, 2, 7);
        Check.throwing("its old id", NoSuchElementException.class, () -> side.on().fill(2, 1));
        Check.throwing("above what is left now", IllegalArgumentException.class, () -> side.on().fill(8, 2));
        Check.same("what is left now", side.on().fill(8, 1), 7);
    }

    private static void wrongArguments() {
        Side side = Side.loggedOn();
        side.deliver(Side.NEW, 2, 7, 1, 10);
        side.on().fill(7, 4);
        wrong(side, "no such order", NoSuchElementException.class, 8, 1);
        wrong(side, "order 0", NoSuchElementException.class, 0, 1);
        wrong(side, "order -1", NoSuchElementException.class, -1, 1);
        wrong(side, "both wrong", NoSuchElementException.class, 8, 0);
        wrong(side, "0", IllegalArgumentException.class, 7, 0);
        wrong(side, "-1", IllegalArgumentException.class, 7, -1);
        wrong(side, "the lowest", IllegalArgumentException.class, 7, Integer.MIN_VALUE);
        wrong(side, "above what is left", IllegalArgumentException.class, 7, 7);
        wrong(side, "the highest", IllegalArgumentException.class, 7, Integer.MAX_VALUE);
        side.deliver(Side.CANCEL, 3, 9, 7, 0);
        Check.throwing("cancelled", NoSuchElementException.class, () -> side.on().fill(9, 1));
    }

    private static void wrong(Side side, String what, Class<? extends RuntimeException> due, int id, int quantity) {
        Check.throwing(what, due, () -> side.on().fill(id, quantity));
        side.order(what, 7, 1, 10, 4, 1);
        Check.same(what + ": NEXT", side.on().session(1), 4);
        Check.same(what + ": frames()", side.on().frames(), 1);
    }
}
