/** A new TradeLink and a peer that talks to it; in the texts of frames | is byte 1, and character 1 is byte 124. */
final class Side {
    static final int HEARTBEAT = '0';
    static final int TEST = '1';
    static final int RESEND = '2';
    static final int RESET = '4';
    static final int LOGOUT = '5';
    static final int LOGON = 'A';
    static final int NEW = 'D';
    static final int CANCEL = 'F';
    static final int CHANGE = 'G';

    private static final int MOST_CALLS = 512;

    private final TradeLink link = new TradeLink();
    private int calls = 0;

    /** A session that is IN: both sides have said LOGON, with the number 1. */
    static Side loggedOn() {
        Side side = new Side();
        Check.same("the first LOGON", side.deliver(LOGON, 1, 30, 0, 0), TradeLink.DONE);
        return side;
    }

    /** The object, for one call: a test must not use it for more than the document promises. */
    TradeLink on() {
        calls++;
        if (calls > MOST_CALLS) {
            throw new AssertionError("the test uses one object for too many calls");
        }
        return link;
    }

    void checkCalls(int due) {
        Check.same("the calls of the object", calls, due);
    }

    int deliver(int type, int number, int a, int b, int c) {
        on().give(type, number, false, a, b, c);
        return on().take();
    }

    int deliverDuplicate(int type, int number, int a, int b, int c) {
        on().give(type, number, true, a, b, c);
        return on().take();
    }

    int deliverBytes(String text) {
        addBytes(text);
        return on().take();
    }

    void addBytes(String text) {
        for (int i = 0; i < text.length(); i++) {
            on().add(swap(text.charAt(i)));
        }
    }

    /** What became of a frame with this body and a right head and end. */
    int deliverBody(String body) {
        return deliverBytes(frame(body));
    }

    void ticks(int count) {
        for (int i = 0; i < count; i++) {
            on().tick();
        }
    }

    /** Checks that the latest call has sent frames with just these bodies. */
    void sent(String what, String... bodies) {
        Check.same(what + ": frames()", on().frames(), bodies.length);
        for (int k = 0; k < bodies.length && k < on().frames(); k++) {
            Check.same(what + ": frame " + k, sentText(k), frame(bodies[k]));
        }
    }

    String sentText(int k) {
        int length = on().length(k);
        StringBuilder text = new StringBuilder();
        for (int i = 0; i < length; i++) {
            text.append(swap(on().octet(k, i)));
        }
        return text.toString();
    }

    void state(String what, int awaited, int next, int missing, boolean in) {
        Check.same(what + ": AWAITED", on().session(0), awaited);
        Check.same(what + ": NEXT", on().session(1), next);
        Check.same(what + ": MISSING", on().session(2), missing);
        Check.same(what + ": IN", on().session(3), in ? 1 : 0);
    }

    void order(String what, int id, int side, int quantity, int filled, int state) {
        Check.same(what + ": side", on().order(id, 0), side);
        Check.same(what + ": quantity", on().order(id, 1), quantity);
        Check.same(what + ": filled", on().order(id, 2), filled);
        Check.same(what + ": state", on().order(id, 3), state);
    }

    static String frame(String body) {
        String head = "8=F|9=" + body.length() + "|" + body;
        return head + "10=" + sum(head) + "|";
    }

    static String sum(String text) {
        int sum = 0;
        for (int i = 0; i < text.length(); i++) {
            sum += swap(text.charAt(i));
        }
        return String.format("%03d", sum % 256);
    }

    /** Byte 1 and byte 124 change places in texts, so that each byte can be written and read. */
    private static char swap(int c) {
        return c == '|' ? (char) 1 : c == 1 ? '|' : (char) c;
    }
}
