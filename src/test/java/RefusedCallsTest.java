import java.util.ArrayList;
import java.util.List;
import java.util.NoSuchElementException;

/**
 * "A call that throws changes nothing": two objects reach the same state, one of them refuses a call, and all that
 * both answer from then on is the same. So it is with calls that only look, and with frames that nothing becomes of.
 */
public final class RefusedCallsTest {
    private interface Use {
        void on(Side side);
    }

    private interface Answer {
        Object get();
    }

    private final State state;

    private RefusedCallsTest(State state) {
        this.state = state;
    }

    public static void main(String[] args) {
        for (State state : State.values()) {
            RefusedCallsTest test = new RefusedCallsTest(state);
            test.give();
            test.spoil();
            test.addAndTake();
            test.fill();
            test.looksThatThrow();
            test.looksThatAnswer();
            test.framesThatNothingBecomesOf();
        }
        Check.end();
    }

    private void give() {
        for (int type : new int[] {-1, 0, '3', '8', 'B', 'a', 'A' + 256, Integer.MAX_VALUE}) {
            giveRefused(type, 1, 1, 1, 1);
        }
        for (int wrong : new int[] {Integer.MIN_VALUE, -1, 1000000, Integer.MAX_VALUE}) {
            giveRefused('D', wrong, 1, 1, 1);
            giveRefused('D', 1, wrong, 1, 1);
            giveRefused('D', 1, 1, wrong, 1);
            giveRefused('D', 1, 1, 1, wrong);
            giveRefused('5', 1, 1, 1, wrong);
        }
    }

    private void giveRefused(int type, int number, int a, int b, int c) {
        refused("give(" + type + ", " + number + ", true, " + a + ", " + b + ", " + c + ")",
            IllegalArgumentException.class, side -> side.on().give(type, number, true, a, b, c));
    }

    private void spoil() {
        for (int i : new int[] {Integer.MIN_VALUE, -1, state.bytes, state.bytes + 1, 120, Integer.MAX_VALUE}) {
            refused("spoil(" + i + ", 1)", IndexOutOfBoundsException.class, side -> side.on().spoil(i, 1));
            refused("spoil(" + i + ", 0)", IndexOutOfBoundsException.class, side -> side.on().spoil(i, 0));
        }
        for (int x : new int[] {Integer.MIN_VALUE, -1, 0, 128, 129, 255, Integer.MAX_VALUE}) {
            if (state.bytes > 0) {
                refused("spoil(0, " + x + ")", IllegalArgumentException.class, side -> side.on().spoil(0, x));
                refused("spoil(the last, " + x + ")", IllegalArgumentException.class,
                    side -> side.on().spoil(state.bytes - 1, x));
            }
        }
    }

    private void addAndTake() {
        for (int octet : new int[] {Integer.MIN_VALUE, -1, 128, 255, Integer.MAX_VALUE}) {
            refused("add(" + octet + ")", IllegalArgumentException.class, side -> side.on().add(octet));
        }
        if (state.bytes == 120) {
            refused("add(0)", IllegalStateException.class, side -> side.on().add(0));
            refused("add(127)", IllegalStateException.class, side -> side.on().add(127));
        }
        if (state.bytes == 0) {
            refused("take()", IllegalStateException.class, side -> side.on().take());
        }
    }

    private void fill() {
        for (int id : new int[] {-1, 0, 10, 13, 14, 15, 51}) {
            if (state.left(id) == 0) {
                refused("fill(" + id + ", 1)", NoSuchElementException.class, side -> side.on().fill(id, 1));
                refused("fill(" + id + ", 0)", NoSuchElementException.class, side -> side.on().fill(id, 0));
            }
        }
        for (int id : new int[] {11, 12}) {
            int left = state.left(id);
            for (int quantity : new int[] {Integer.MIN_VALUE, -1, 0, left + 1, Integer.MAX_VALUE}) {
                if (left > 0) {
                    refused("fill(" + id + ", " + quantity + ")", IllegalArgumentException.class,
                        side -> side.on().fill(id, quantity));
                }
            }
        }
    }

    private void looksThatThrow() {
        Class<IndexOutOfBoundsException> index = IndexOutOfBoundsException.class;
        for (int k : new int[] {Integer.MIN_VALUE, -1, state.sent, 20, Integer.MAX_VALUE}) {
            refused("length(" + k + ")", index, side -> side.on().length(k));
            refused("octet(" + k + ", 0)", index, side -> side.on().octet(k, 0));
        }
        for (int i : new int[] {-1, 120}) {
            refused("octet(0, " + i + ")", index, side -> side.on().octet(0, i));
        }
        refused("session(-1)", index, side -> side.on().session(-1));
        refused("session(7)", index, side -> side.on().session(7));
        refused("order(0, 0)", NoSuchElementException.class, side -> side.on().order(0, 0));
        refused("order(99, 4)", NoSuchElementException.class, side -> side.on().order(99, 4));
        if (state.knows(11)) {
            refused("order(11, -1)", index, side -> side.on().order(11, -1));
            refused("order(11, 4)", index, side -> side.on().order(11, 4));
        }
    }

    private void looksThatAnswer() {
        alike("frames()", side -> side.on().frames());
        for (int what = 0; what <= 6; what++) {
            int seen = what;
            alike("session(" + what + ")", side -> side.on().session(seen));
        }
        for (int k = 0; k < state.sent && k <= 19; k++) {
            int seen = k;
            alike("length(" + k + ")", side -> side.on().length(seen));
            alike("octet(" + k + ", 0)", side -> side.on().octet(seen, 0));
        }
        for (int id = 11; id <= 15; id++) {
            int seen = id;
            if (state.knows(id)) {
                alike("order(" + id + ", ..)", side -> {
                    for (int what = 0; what <= 3; what++) {
                        side.on().order(seen, what);
                    }
                });
            }
        }
    }

    /** They are gone, and the call has sent nothing: what both sent before is not compared. */
    private void framesThatNothingBecomesOf() {
        if (state.bytes > 0) {
            return;
        }
        vain("a garbled frame", TradeLink.GARBLED, side -> side.on().add(56));
        vain("a garbled LOGON", TradeLink.GARBLED, side -> {
            side.on().give('A', 999999, false, 30, 0, 0);
            side.on().add(1);
        });
        vain("a garbled LOGOUT", TradeLink.GARBLED, side -> {
            side.on().give('5', 7, false, 30, 0, 0);
            side.on().spoil(0, 1);
        });
        if (state.isOut()) {
            for (char type : "01245DFG".toCharArray()) {
                for (int number : new int[] {0, 1, 7, 8, 9, 999999}) {
                    vain("type " + type + ", number " + number + " while OUT", TradeLink.IGNORED,
                        side -> side.on().give(type, number, false, 11, 1, 5));
                    vain("type " + type + ", number " + number + ", a duplicate while OUT", TradeLink.IGNORED,
                        side -> side.on().give(type, number, true, 999999, 0, 5));
                }
            }
        }
    }

    private void refused(String call, Class<? extends RuntimeException> due, Use use) {
        alike(call, side -> Check.throwing(state + ": " + call, due, () -> use.on(side)));
    }

    private void alike(String call, Use use) {
        Check.same(state + ": seen behind " + call, look(touched(use)), look(state.reached()));
        Check.same(state + ": the frame behind " + call, frame(touched(use)), frame(state.reached()));
        Check.same(state + ": taken behind " + call, goOn(touched(use)), goOn(state.reached()));
        Check.same(state + ": ticks behind " + call, ticks(touched(use)), ticks(state.reached()));
    }

    private void vain(String what, int due, Use frame) {
        Use use = side -> {
            frame.on(side);
            Check.same(state + ": " + what, side.on().take(), due);
            Check.same(state + ": frames behind " + what, side.on().frames(), 0);
        };
        Check.same(state + ": taken behind " + what, goOn(touched(use)), goOn(state.reached()));
        Check.same(state + ": ticks behind " + what, ticks(touched(use)), ticks(state.reached()));
    }

    private Side touched(Use use) {
        Side side = state.reached();
        use.on(side);
        return side;
    }

    /** All that can be seen without a change. */
    private static String look(Side side) {
        List<Object> seen = new ArrayList<>();
        addSent(seen, side);
        for (int what = 0; what <= 6; what++) {
            seen.add(side.on().session(what));
        }
        for (int id = 11; id <= 20; id++) {
            for (int what = 0; what <= 3; what++) {
                int ofOrder = id;
                int value = what;
                seen.add(answer(() -> side.on().order(ofOrder, value)));
            }
        }
        return seen.toString();
    }

    /** The bytes of the peer's next frame. */
    private static String frame(Side side) {
        List<Object> seen = new ArrayList<>();
        for (int i = 0; i <= 120; i++) {
            int at = i;
            seen.add(answer(() -> side.on().spoil(at, 1)));
        }
        return seen.toString();
    }

    /** What becomes of that frame, the store, the ids that are used, and what is left of the orders. */
    private static String goOn(Side side) {
        List<Object> seen = new ArrayList<>();
        seen.add(answer(() -> side.on().take()));
        seen.add(side.deliver(Side.LOGON, awaited(side), 30, 0, 0));
        seen.add(side.deliver(Side.RESEND, awaited(side), 1, 0, 0));
        addSent(seen, side);
        for (int id = 11; id <= 18; id++) {
            int filled = id;
            seen.add(side.deliver(Side.NEW, awaited(side), id, 1, 10));
            seen.add(answer(() -> side.on().length(0)));
            seen.add(answer(() -> side.on().fill(filled, 5)));
        }
        seen.add(look(side));
        return seen.toString();
    }

    /** When it was last heard, said and asked. */
    private static String ticks(Side side) {
        List<Object> seen = new ArrayList<>();
        for (int i = 0; i < 26; i++) {
            seen.add(side.on().tick());
            addSent(seen, side);
        }
        seen.add(side.on().session(0));
        seen.add(side.on().session(1));
        return seen.toString();
    }

    private static int awaited(Side side) {
        return Math.min(side.on().session(0), 999999);
    }

    /** Of many frames only some, as the calls of an object are counted. */
    private static void addSent(List<Object> seen, Side side) {
        int frames = side.on().frames();
        seen.add(frames);
        for (int k = 0; k < frames && k <= 19; k++) {
            if (k < 3 || k == 19) {
                seen.add(side.sentText(k));
            }
        }
    }

    private static Object answer(Answer answer) {
        try {
            return answer.get();
        } catch (RuntimeException e) {
            return e.getClass().getSimpleName();
        }
    }
}
