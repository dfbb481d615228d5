import java.util.NoSuchElementException;

/** Promise 1: a new object. */
public final class NewObjectTest {
    public static void main(String[] args) {
        Side side = new Side();
        side.state("new", 1, 1, 0, false);
        Check.same("new: time", side.on().session(4), 0);
        Check.same("new: orders", side.on().session(5), 0);
        Check.same("new: messages of orders", side.on().session(6), 0);
        Check.same("new: frames()", side.on().frames(), 0);
        Check.throwing("new: take()", IllegalStateException.class, () -> side.on().take());
        Check.throwing("new: spoil(0, 1)", IndexOutOfBoundsException.class, () -> side.on().spoil(0, 1));
        Check.throwing("new: length(0)", IndexOutOfBoundsException.class, () -> side.on().length(0));
        Check.throwing("new: octet(0, 0)", IndexOutOfBoundsException.class, () -> side.on().octet(0, 0));
        Check.throwing("new: order(0, 0)", NoSuchElementException.class, () -> side.on().order(0, 0));
        Check.throwing("new: fill(0, 1)", NoSuchElementException.class, () -> side.on().fill(0, 1));
        Check.same("new: the first byte", side.on().add(56), 1);
        objectsAreApart();
        Check.end();
    }

    private static void objectsAreApart() {
        Side one = Side.loggedOn();
        one.deliver(Side.NEW, 2, 7, 1, 10);
        Side other = new Side();
        other.state("another", 1, 1, 0, false);
        Check.same("another: orders", other.on().session(5), 0);
    }
}
