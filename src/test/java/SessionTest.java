/** Promise 12: session. */
public final class SessionTest {
    public static void main(String[] args) {
        Side side = Side.loggedOn();
        side.ticks(3);
        side.deliver(Side.NEW, 2, 7, 1, 10);
        side.deliver(Side.NEW, 3, 7, 1, 10);
        side.deliver(Side.CANCEL, 4, 8, 7, 0);
        side.deliver(Side.CHANGE, 5, 9, 7, 10);
        side.deliver(Side.NEW, 6, 10, 1, 10);
        side.deliver(Side.NEW, 12, 11, 1, 10);
        side.deliverDuplicate(Side.NEW, 3, 12, 1, 10);
        Check.same("AWAITED", side.on().session(0), 7);
        Check.same("NEXT", side.on().session(1), 8);
        Check.same("MISSING", side.on().session(2), 12);
        Check.same("IN", side.on().session(3), 1);
        Check.same("the time", side.on().session(4), 3);
        Check.same("orders", side.on().session(5), 2);
        Check.same("messages of orders in their turn", side.on().session(6), 5);
        for (int what : new int[] {-1, 7, 8, 100, Integer.MAX_VALUE, Integer.MIN_VALUE}) {
            Check.throwing("session(" + what + ")", IndexOutOfBoundsException.class, () -> side.on().session(what));
        }
        Check.end();
    }
}
