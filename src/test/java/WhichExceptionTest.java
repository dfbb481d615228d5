/**
 * "Of several exceptions the one that is named first is thrown", and no other than those that are named: each call
 * with every pair of arguments from just below a limit to far beyond it, in each state.
 */
public final class WhichExceptionTest {
    private static final String NOTHING = "nothing";
    private static final String ARGUMENT = "IllegalArgumentException";
    private static final String STATE = "IllegalStateException";
    private static final String INDEX = "IndexOutOfBoundsException";
    private static final String ELEMENT = "NoSuchElementException";

    private static final int[] NUMBERS = {Integer.MIN_VALUE, -1, 0, 1, 999999, 1000000, Integer.MAX_VALUE};
    private static final int[] OCTETS = {Integer.MIN_VALUE, -128, -1, 0, 1, 126, 127, 128, 256, Integer.MAX_VALUE};
    private static final int[] PLACES = {Integer.MIN_VALUE, -2, -1, 0, 1, 2, 3, 4, 5, 6, 7, 18, 19, 20, 21, 22, 23, 24, 32,
        33, 34, 35, 36, 37, 54, 55, 118, 119, 120, 121, 127, 128, Integer.MAX_VALUE};
    private static final int[] IDS = {Integer.MIN_VALUE, -1, 0, 1, 10, 11, 12, 13, 14, 15, 16, 20, 49, 50, 51, 999999,
        1000000, Integer.MAX_VALUE};
    private static final int[] QUANTITIES = {Integer.MIN_VALUE, -1, 0, 1, 4, 5, 6, 7, 9, 10, 11, 999999,
        Integer.MAX_VALUE};

    private final State state;

    private WhichExceptionTest(State state) {
        this.state = state;
    }

    public static void main(String[] args) {
        for (State state : State.values()) {
            WhichExceptionTest test = new WhichExceptionTest(state);
            test.give();
            test.spoil();
            test.addAndTake();
            test.fill();
            test.sentFrames();
            test.sessionAndOrder();
            test.callsThatNeverThrow();
        }
        Check.end();
    }

    private interface Use {
        void on(Side side);
    }

    /** Calls that throw leave the object as it was (RefusedCallsTest), the others get a new one each. */
    private void due(String call, String exception, Use use) {
        Side side = state.reached();
        String thrown = NOTHING;
        try {
            use.on(side);
        } catch (RuntimeException e) {
            thrown = e.getClass().getSimpleName();
        }
        Check.same(state + ": " + call + " throws", thrown, exception);
    }

    private void give() {
        for (int type = -2; type <= 260; type++) {
            boolean known = type >= 0 && "01245ADFG".indexOf(type) >= 0;
            giveDue(type, 1, 1, 1, 1, known ? NOTHING : ARGUMENT);
        }
        for (int value : NUMBERS) {
            String exception = value >= 0 && value <= 999999 ? NOTHING : ARGUMENT;
            for (char type : "01245ADFG".toCharArray()) {
                giveDue(type, value, 0, 0, 0, exception);
                giveDue(type, 0, value, 0, 0, exception);
                giveDue(type, 0, 0, value, 0, exception);
                giveDue(type, 0, 0, 0, value, exception);
            }
            giveDue('8', value, value, value, value, ARGUMENT);
        }
        giveDue('A' + 256, 1, 1, 1, 1, ARGUMENT);
        giveDue('A' + 65536, 1, 1, 1, 1, ARGUMENT);
        giveDue('A' - 65536, 1, 1, 1, 1, ARGUMENT);
    }

    private void giveDue(int type, int number, int a, int b, int c, String exception) {
        String call = "give(" + type + ", " + number + ", .., " + a + ", " + b + ", " + c + ")";
        due(call, exception, side -> side.on().give(type, number, false, a, b, c));
        due(call + ", a duplicate", exception, side -> side.on().give(type, number, true, a, b, c));
    }

    private void spoil() {
        for (int i : PLACES) {
            for (int x : OCTETS) {
                String exception = i < 0 || i >= state.bytes ? INDEX : x < 1 || x > 127 ? ARGUMENT : NOTHING;
                due("spoil(" + i + ", " + x + ")", exception, side -> side.on().spoil(i, x));
            }
        }
    }

    private void addAndTake() {
        for (int octet : OCTETS) {
            String exception = octet < 0 || octet > 127 ? ARGUMENT : state.bytes == 120 ? STATE : NOTHING;
            due("add(" + octet + ")", exception, side -> side.on().add(octet));
        }
        due("take()", state.bytes == 0 ? STATE : NOTHING, side -> side.on().take());
    }

    private void fill() {
        for (int id : IDS) {
            for (int quantity : QUANTITIES) {
                int left = state.left(id);
                String exception = left == 0 ? ELEMENT : quantity < 1 || quantity > left ? ARGUMENT : NOTHING;
                due("fill(" + id + ", " + quantity + ")", exception, side -> side.on().fill(id, quantity));
            }
        }
    }

    private void sentFrames() {
        for (int k : PLACES) {
            boolean kept = k >= 0 && k < state.sent && k <= 19;
            due("length(" + k + ")", kept ? NOTHING : INDEX, side -> side.on().length(k));
            int length = kept ? state.reached().on().length(k) : 0;
            for (int i : PLACES) {
                due("octet(" + k + ", " + i + ")", i >= 0 && i < length ? NOTHING : INDEX, side -> side.on().octet(k, i));
            }
            due("octet(" + k + ", the last)", kept ? NOTHING : INDEX, side -> side.on().octet(k, length - 1));
            due("octet(" + k + ", behind the last)", INDEX, side -> side.on().octet(k, length));
        }
    }

    private void sessionAndOrder() {
        for (int what : PLACES) {
            due("session(" + what + ")", what < 0 || what > 6 ? INDEX : NOTHING, side -> side.on().session(what));
            for (int id : IDS) {
                String exception = !state.knows(id) ? ELEMENT : what < 0 || what > 3 ? INDEX : NOTHING;
                due("order(" + id + ", " + what + ")", exception, side -> side.on().order(id, what));
            }
        }
    }

    private void callsThatNeverThrow() {
        due("tick()", NOTHING, side -> side.on().tick());
        due("restart()", NOTHING, side -> side.on().restart());
        due("frames()", NOTHING, side -> side.on().frames());
        Check.same(state + ": frames()", state.reached().on().frames(), state.sent);
    }
}
