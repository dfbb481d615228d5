/** Promise 4: add. */
public final class AddTest {
    public static void main(String[] args) {
        aWholeFrame();
        behindAFrame();
        everyByte();
        upToAFullRow();
        wrongArguments();
        Check.end();
    }

    private static void aWholeFrame() {
        Side side = new Side();
        Check.same("the first byte", side.on().add('8'), 1);
        Check.same("the second", side.on().add('='), 2);
        side.addBytes("F|9=17|35=A|34=1|108=30|");
        Check.same("byte 0 is what was added", side.on().spoil(0, 1), '9');
        side.on().spoil(0, 1);
        side.addBytes("10=" + Side.sum("8=F|9=17|35=A|34=1|108=30|"));
        Check.same("the last", side.on().add(1), 33);
        Check.same("it is right", side.on().take(), TradeLink.DONE);
        Check.same("the first of the next", side.on().add(0), 1);
        Check.same("add sends nothing", side.on().frames(), 0);
    }

    private static void behindAFrame() {
        Side side = new Side();
        side.on().give(Side.LOGON, 1, false, 30, 0, 0);
        Check.same("behind a given frame", side.on().add(1), 34);
        Check.same("which is garbled then", side.on().take(), TradeLink.GARBLED);
    }

    private static void everyByte() {
        for (int octet = 0; octet <= 127; octet++) {
            Side side = new Side();
            Check.same("byte " + octet, side.on().add(octet), 1);
            Check.same("byte " + octet + " is there", side.on().spoil(0, 64), octet ^ 64);
        }
    }

    /** Behind each given frame as many bytes as there is room for, and a new row behind it. */
    private static void upToAFullRow() {
        for (char type : "01245ADFG".toCharArray()) {
            Side side = new Side();
            int size = side.on().give(type, 1, true, 999999, 999999, 999999);
            while (size < 120) {
                size++;
                Check.same("byte " + size, side.on().add(1), size);
            }
            Check.throwing("a byte behind 120", IllegalStateException.class, () -> side.on().add(1));
            Check.throwing("a wrong byte behind 120", IllegalArgumentException.class, () -> side.on().add(-1));
            Check.same("120 bytes", side.on().take(), TradeLink.GARBLED);
            Check.same("a new row", side.on().add(1), 1);
            for (int more = 2; more <= 120; more++) {
                side.on().add(1);
            }
            Check.same("a frame given over a full row", side.on().give(Side.LOGON, 1, false, 30, 0, 0), 33);
            Check.same("is right", side.on().take(), TradeLink.DONE);
        }
    }

    private static void wrongArguments() {
        Side side = new Side();
        Check.throwing("-1", IllegalArgumentException.class, () -> side.on().add(-1));
        Check.throwing("128", IllegalArgumentException.class, () -> side.on().add(128));
        Check.throwing("there is no frame yet", IllegalStateException.class, () -> side.on().take());
        Check.same("127", side.on().add(127), 1);
        Check.same("0", side.on().add(0), 2);
        for (int size = 3; size <= 120; size++) {
            Check.same("byte " + size, side.on().add(65), size);
        }
        Check.throwing("a byte behind 120", IllegalStateException.class, () -> side.on().add(65));
        Check.throwing("a wrong byte behind 120", IllegalArgumentException.class, () -> side.on().add(128));
        Check.same("the last byte is there", side.on().spoil(119, 1), 64);
        Check.throwing("no byte more", IndexOutOfBoundsException.class, () -> side.on().spoil(120, 1));
        Check.same("120 bytes", side.on().take(), TradeLink.GARBLED);
        side.on().give(Side.LOGON, 3, false, 30, 0, 0);
        side.on().take();
        Check.throwing("a wrong byte", IllegalArgumentException.class, () -> side.on().add(200));
        Check.same("what was sent is as it was", side.on().frames(), 2);
    }
}
