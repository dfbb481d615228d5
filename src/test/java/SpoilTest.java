/** Promise 3: spoil. */
public final class SpoilTest {
    public static void main(String[] args) {
        changes();
        everyByteAndEveryChange();
        aFullRow();
        wrongArguments();
        Check.end();
    }

    private static void changes() {
        Side side = Side.loggedOn();
        side.on().give(Side.NEW, 2, false, 7, 1, 10);
        Check.same("the first byte", side.on().spoil(0, 1), 57);
        Check.same("and back", side.on().spoil(0, 1), 56);
        Check.same("all bits", side.on().spoil(3, 127), 126);
        Check.same("and back", side.on().spoil(3, 127), 1);
        Check.same("the last byte", side.on().spoil(41, 3), 2);
        Check.same("and back", side.on().spoil(41, 3), 1);
        Check.same("spoil sends nothing", side.on().frames(), 0);
        Check.same("the frame is right again", side.on().take(), TradeLink.DONE);
        side.order("it says what it said", 7, 1, 10, 0, 0);
        side.on().add(5);
        Check.same("an added byte", side.on().spoil(0, 5), 0);
    }

    private static void everyByteAndEveryChange() {
        for (int octet = 0; octet <= 127; octet++) {
            Side side = new Side();
            side.on().add(octet);
            for (int x = 1; x <= 127; x++) {
                Check.same(octet + " and " + x, side.on().spoil(0, x), octet ^ x);
                Check.same(octet + " and " + x + ", and back", side.on().spoil(0, x), octet);
            }
        }
    }

    private static void aFullRow() {
        Side side = new Side();
        for (int i = 0; i < 120; i++) {
            side.on().add(i);
            int behind = i + 1;
            Check.throwing("behind byte " + i, IndexOutOfBoundsException.class, () -> side.on().spoil(behind, 1));
        }
        for (int i = 0; i < 120; i++) {
            Check.same("byte " + i, side.on().spoil(i, 127), i ^ 127);
        }
        Check.throwing("byte 120", IndexOutOfBoundsException.class, () -> side.on().spoil(120, 127));
        Check.throwing("byte -1", IndexOutOfBoundsException.class, () -> side.on().spoil(-1, 127));
        Check.same("the others are as they were", side.on().spoil(119, 127), 119);
        Check.same("the first too", side.on().spoil(0, 127), 0);
    }

    private static void wrongArguments() {
        Side side = new Side();
        Check.throwing("no frame", IndexOutOfBoundsException.class, () -> side.on().spoil(0, 1));
        Check.throwing("no frame and no x", IndexOutOfBoundsException.class, () -> side.on().spoil(0, 0));
        side.on().give(Side.LOGON, 2, false, 30, 0, 0);
        Check.throwing("byte -1", IndexOutOfBoundsException.class, () -> side.on().spoil(-1, 1));
        Check.throwing("byte 33 of 33", IndexOutOfBoundsException.class, () -> side.on().spoil(33, 1));
        Check.throwing("both wrong", IndexOutOfBoundsException.class, () -> side.on().spoil(33, 128));
        Check.throwing("x 0", IllegalArgumentException.class, () -> side.on().spoil(0, 0));
        Check.throwing("x 128", IllegalArgumentException.class, () -> side.on().spoil(32, 128));
        Check.throwing("x -1", IllegalArgumentException.class, () -> side.on().spoil(0, -1));
        Check.same("the frame is as it was", side.on().take(), TradeLink.EARLY);
        Check.throwing("the frame is taken", IndexOutOfBoundsException.class, () -> side.on().spoil(0, 1));
        Check.same("what was sent is as it was", side.on().frames(), 2);
    }
}
