import java.util.NoSuchElementException;

/** Promise 13: order. */
public final class OrderTest {
    public static void main(String[] args) {
        Side side = Side.loggedOn();
        side.deliver(Side.NEW, 2, 7, 1, 10);
        side.deliver(Side.NEW, 3, 8, 2, 999999);
        side.deliver(Side.NEW, 4, 9, 0, 10);
        side.order("open", 7, 1, 10, 0, 0);
        side.order("the other side", 8, 2, 999999, 0, 0);
        side.on().fill(8, 999998);
        side.order("partly filled", 8, 2, 999999, 999998, 1);
        side.on().fill(8, 1);
        side.order("filled", 8, 2, 999999, 999999, 2);
        side.deliver(Side.CHANGE, 5, 10, 7, 20);
        side.order("changed", 10, 1, 20, 0, 0);
        side.deliver(Side.CANCEL, 6, 11, 10, 0);
        side.order("cancelled", 11, 1, 20, 0, 4);
        for (int id : new int[] {0, -1, 7, 9, 10, 12, Integer.MAX_VALUE}) {
            Check.throwing("order(" + id + ", 0)", NoSuchElementException.class, () -> side.on().order(id, 0));
            Check.throwing("order(" + id + ", 4)", NoSuchElementException.class, () -> side.on().order(id, 4));
        }
        for (int what : new int[] {-1, 4, Integer.MAX_VALUE, Integer.MIN_VALUE}) {
            Check.throwing("order(8, " + what + ")", IndexOutOfBoundsException.class, () -> side.on().order(8, what));
        }
        Check.end();
    }
}
