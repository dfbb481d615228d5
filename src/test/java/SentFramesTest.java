/** Promises 9, 10 and 11: frames, length and octet. */
public final class SentFramesTest {
    public static void main(String[] args) {
        whichCallsCount();
        betweenGiveAndTake();
        bytes();
        moreThanTwenty();
        twentyAndOne();
        framesOfEachCall();
        wrongArguments();
        Check.end();
    }

    private static void whichCallsCount() {
        Side side = Side.loggedOn();
        Check.same("take", side.on().frames(), 1);
        Check.same("it stays", side.on().frames(), 1);
        side.on().session(0);
        side.on().length(0);
        side.on().octet(0, 0);
        Check.throwing("order", java.util.NoSuchElementException.class, () -> side.on().order(1, 0));
        Check.throwing("take", IllegalStateException.class, () -> side.on().take());
        Check.same("calls that only look, or throw", side.on().frames(), 1);
        Check.same("its bytes", side.sentText(0), Side.frame("35=A|34=1|108=30|"));
        side.on().give(Side.TEST, 2, false, 5, 0, 0);
        Check.same("give", side.on().frames(), 0);
        side.on().take();
        Check.same("take", side.on().frames(), 1);
        side.on().add(1);
        Check.same("add", side.on().frames(), 0);
        side.on().give(Side.TEST, 3, false, 5, 0, 0);
        side.on().take();
        side.on().tick();
        Check.same("tick", side.on().frames(), 0);
        side.deliver(Side.NEW, 4, 7, 1, 10);
        side.on().fill(7, 1);
        Check.same("fill", side.on().frames(), 1);
        side.on().restart();
        Check.same("restart", side.on().frames(), 0);
        side.on().give(Side.LOGON, 9, false, 1, 0, 0);
        side.on().take();
        Check.same("take", side.on().frames(), 2);
        side.on().give(Side.LOGON, 9, false, 1, 0, 0);
        side.on().spoil(0, 1);
        Check.same("spoil", side.on().frames(), 0);
    }

    /** The frame is there already, and other calls send something before it is spoilt or taken. */
    private static void betweenGiveAndTake() {
        Side side = Side.loggedOn();
        side.deliver(Side.NEW, 2, 7, 1, 10);
        side.on().give(Side.LOGON, 3, false, 1, 0, 0);
        side.on().fill(7, 1);
        side.sent("fill", "35=8|34=3|11=7|39=1|14=1|151=9|");
        side.on().spoil(0, 1);
        side.sent("spoil");
        side.on().fill(7, 1);
        Check.same("a spoilt frame", side.on().take(), TradeLink.GARBLED);
        side.sent("take");
        side.on().give(Side.LOGON, 3, false, 1, 0, 0);
        side.on().fill(7, 1);
        Check.throwing("give", IllegalArgumentException.class, () -> side.on().give('8', 3, false, 1, 0, 0));
        side.sent("a give that throws", "35=8|34=5|11=7|39=1|14=3|151=7|");
        Check.same("the frame is there", side.on().take(), TradeLink.DONE);
    }

    /** Each call that can send begins with no frame; one that throws leaves those of the call before it. */
    private static void framesOfEachCall() {
        String[] calls = {"give", "spoil", "add", "take", "tick", "restart", "fill"};
        int[] due = {0, 0, 0, 1, 0, 0, 1};
        for (int i = 0; i < calls.length; i++) {
            Side side = Side.loggedOn();
            side.deliver(Side.NEW, 2, 7, 1, 10);
            side.on().give(Side.TEST, 3, false, 5, 0, 0);
            Check.same("given", side.on().frames(), 0);
            side.on().fill(7, 3);
            Check.same("filled", side.on().frames(), 1);
            call(calls[i], side);
            Check.same(calls[i] + ": frames()", side.on().frames(), due[i]);
            for (int k = 0; k < 2; k++) {
                int at = k;
                if (k >= due[i]) {
                    Check.throwing(calls[i] + ": length", IndexOutOfBoundsException.class, () -> side.on().length(at));
                    Check.throwing(calls[i] + ": octet", IndexOutOfBoundsException.class, () -> side.on().octet(at, 0));
                }
            }
        }
    }

    private static void call(String name, Side side) {
        switch (name) {
            case "give" -> side.on().give(Side.TEST, 3, false, 5, 0, 0);
            case "spoil" -> side.on().spoil(0, 1);
            case "add" -> side.on().add(0);
            case "take" -> side.on().take();
            case "tick" -> side.on().tick();
            case "restart" -> side.on().restart();
            default -> side.on().fill(7, 1);
        }
    }

    private static void bytes() {
        Side side = new Side();
        side.deliver(Side.LOGON, 5, 999999, 0, 0);
        Check.same("the first frame", side.on().length(0), 37);
        Check.same("the second", side.on().length(1), 35);
        Check.same("its first byte", side.on().octet(1, 0), '8');
        Check.same("its last byte", side.on().octet(1, 34), 1);
        Check.same("the last byte of the first", side.on().octet(0, 36), 1);
        Check.same("its type", side.on().octet(0, 12), 'A');
        Check.same("the first, whole", side.sentText(0), Side.frame("35=A|34=1|108=999999|"));
        Check.same("the second, whole", side.sentText(1), Side.frame("35=2|34=2|7=1|16=0|"));
        Check.same("a sum", side.sentText(1), "8=F|9=19|35=2|34=2|7=1|16=0|10=" + sumOfSecond() + "|");
    }

    /** Added up here, byte by byte, apart from the helper that the other tests use. */
    private static String sumOfSecond() {
        int sum = 0;
        for (byte octet : "8=F\0019=19\00135=2\00134=2\0017=1\00116=0\001".getBytes()) {
            sum += octet;
        }
        String digits = "00" + sum % 256;
        return digits.substring(digits.length() - 3);
    }

    private static void moreThanTwenty() {
        Side side = Side.loggedOn();
        for (int i = 1; i <= 25; i++) {
            side.deliver(Side.NEW, i + 1, i, 1, i);
        }
        side.deliver(Side.RESEND, 27, 2, 20, 0);
        Check.same("19 frames", side.on().frames(), 19);
        Check.throwing("the twentieth", IndexOutOfBoundsException.class, () -> side.on().length(19));
        side.deliver(Side.RESEND, 28, 2, 21, 0);
        Check.same("20 frames", side.on().frames(), 20);
        Check.same("the twentieth", side.on().length(19), 55);
        side.deliver(Side.RESEND, 29, 1, 0, 0);
        Check.same("26 frames", side.on().frames(), 26);
        Check.same("the first", side.sentText(0), Side.frame("35=4|34=1|43=Y|36=2|123=Y|"));
        Check.same("the last that is kept", side.sentText(19), Side.frame("35=8|34=20|43=Y|11=19|39=0|14=0|151=19|"));
        Check.throwing("length(20)", IndexOutOfBoundsException.class, () -> side.on().length(20));
        Check.throwing("octet(20, 0)", IndexOutOfBoundsException.class, () -> side.on().octet(20, 0));
        Check.throwing("length(25)", IndexOutOfBoundsException.class, () -> side.on().length(25));
        Check.throwing("length(26)", IndexOutOfBoundsException.class, () -> side.on().length(26));
        side.deliver(Side.TEST, 30, 1, 0, 0);
        Check.throwing("they are gone", IndexOutOfBoundsException.class, () -> side.on().length(1));
    }

    private static void twentyAndOne() {
        for (int frames : new int[] {1, 2, 19, 20, 21, 22}) {
            Side side = Side.loggedOn();
            for (int i = 1; i <= 25; i++) {
                side.deliver(Side.NEW, i + 1, i, 1, i);
            }
            side.deliver(Side.RESEND, 27, 2, frames + 1, 0);
            Check.same("frames()", side.on().frames(), frames);
            for (int k = 0; k <= 22; k++) {
                int at = k;
                String what = "frame " + k + " of " + frames;
                if (k < frames && k <= 19) {
                    int digits = (k + 2 > 9 ? 1 : 0) + (k + 1 > 9 ? 2 : 0);
                    Check.same(what, side.on().length(k), 52 + digits);
                    Check.same(what + ": the first byte", side.on().octet(k, 0), '8');
                    Check.same(what + ": the last byte", side.on().octet(k, 51 + digits), 1);
                    Check.throwing(what + ": behind it", IndexOutOfBoundsException.class,
                        () -> side.on().octet(at, 52 + digits));
                } else {
                    Check.throwing(what, IndexOutOfBoundsException.class, () -> side.on().length(at));
                    Check.throwing(what + ": a byte", IndexOutOfBoundsException.class, () -> side.on().octet(at, 0));
                }
            }
        }
    }

    private static void wrongArguments() {
        Side side = Side.loggedOn();
        for (int k : new int[] {-1, 1, 19, 20, Integer.MAX_VALUE, Integer.MIN_VALUE}) {
            Check.throwing("length(" + k + ")", IndexOutOfBoundsException.class, () -> side.on().length(k));
            Check.throwing("octet(" + k + ", 0)", IndexOutOfBoundsException.class, () -> side.on().octet(k, 0));
        }
        for (int i : new int[] {-1, 33, 120, Integer.MAX_VALUE, Integer.MIN_VALUE}) {
            Check.throwing("octet(0, " + i + ")", IndexOutOfBoundsException.class, () -> side.on().octet(0, i));
        }
        Check.same("the last byte", side.on().octet(0, 32), 1);
    }
}
