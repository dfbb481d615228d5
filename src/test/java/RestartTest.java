/** Promise 7: restart. */
public final class RestartTest {
    public static void main(String[] args) {
        answers();
        whatStays();
        theFrameStays();
        inEveryState();
        isOutUntilALogOn();
        Check.end();
    }

    private static void answers() {
        Side side = new Side();
        Check.same("OUT", side.on().restart(), false);
        side.deliver(Side.LOGON, 1, 30, 0, 0);
        Check.same("IN", side.on().restart(), true);
        side.sent("restart");
        Check.same("OUT again", side.on().restart(), false);
    }

    private static void whatStays() {
        Side side = Side.loggedOn();
        side.deliver(Side.NEW, 2, 7, 1, 10);
        side.on().fill(7, 4);
        side.ticks(3);
        side.deliver(Side.HEARTBEAT, 9, 0, 0, 0);
        side.state("before", 3, 5, 9, true);
        side.on().restart();
        side.state("numbers stay", 3, 5, 0, false);
        Check.same("the time stays", side.on().session(4), 3);
        Check.same("orders stay", side.on().session(5), 1);
        Check.same("messages stay", side.on().session(6), 1);
        side.order("the order stays", 7, 1, 10, 4, 1);
        Check.same("it can be filled", side.on().fill(7, 1), 5);
        Check.same("a frame while OUT", side.deliver(Side.NEW, 3, 8, 1, 10), TradeLink.IGNORED);
        side.deliver(Side.LOGON, 3, 30, 0, 0);
        side.sent("a LOGON", "35=A|34=6|108=30|");
        side.deliver(Side.NEW, 4, 7, 1, 10);
        side.sent("used ids stay", "35=8|34=7|11=7|39=8|14=0|151=0|");
        side.deliver(Side.RESEND, 5, 2, 5, 0);
        side.sent("reports stay", "35=8|34=2|43=Y|11=7|39=0|14=0|151=10|", "35=8|34=3|43=Y|11=7|39=1|14=4|151=6|",
            "35=4|34=4|43=Y|36=5|123=Y|", "35=8|34=5|43=Y|11=7|39=1|14=5|151=5|");
    }

    private static void theFrameStays() {
        Side side = new Side();
        side.on().give(Side.LOGON, 1, false, 30, 0, 0);
        side.on().restart();
        Check.same("the peer's frame is the peer's", side.on().take(), TradeLink.DONE);
    }

    /** It answers whether the session was IN, sends nothing, and ends what is missing; the numbers stay. */
    private static void inEveryState() {
        for (State state : State.values()) {
            Side side = state.reached();
            int awaited = side.on().session(0);
            int next = side.on().session(1);
            int time = side.on().session(4);
            int orders = side.on().session(5);
            int messages = side.on().session(6);
            for (int i = 0; i < 3; i++) {
                boolean wasIn = i == 0 && !state.isOut();
                Check.same(state + ": restart " + i, side.on().restart(), wasIn);
                side.sent(state + ": restart " + i);
                side.state(state + ": restart " + i, awaited, next, 0, false);
                Check.same(state + ": the time", side.on().session(4), time);
                Check.same(state + ": orders", side.on().session(5), orders);
                Check.same(state + ": messages of orders", side.on().session(6), messages);
            }
            if (state.left(11) > 0) {
                Check.same(state + ": the order can be filled", side.on().fill(11, state.left(11)), 10);
                side.sent(state + ": while OUT");
                Check.same(state + ": the report has a number", side.on().session(1), next + 1);
            }
        }
    }

    private static void isOutUntilALogOn() {
        Side side = Side.loggedOn();
        side.on().restart();
        for (char type : "01245DFG".toCharArray()) {
            Check.same("type " + type, side.deliver(type, 2, 9, 1, 9), TradeLink.IGNORED);
        }
        Check.same("a low LOGON", side.deliver(Side.LOGON, 1, 30, 0, 0), TradeLink.LOW);
        side.state("OUT", 2, 2, 0, false);
        Check.same("a LOGON", side.deliver(Side.LOGON, 2, 30, 0, 0), TradeLink.DONE);
        side.sent("a LOGON", "35=A|34=2|108=30|");
        side.state("IN", 3, 3, 0, true);
    }
}
