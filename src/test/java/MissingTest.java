/** Terms, MISSING: when something is, up to which number, when it asks, and when nothing is missing any more. */
public final class MissingTest {
    public static void main(String[] args) {
        begins();
        growsOnly();
        endsByFramesInTheirTurn();
        endsByFill();
        endsByReset();
        endsWithTheSession();
        isNotThereBehindALogOn();
        asksOnce();
        asksAnew();
        highestNumber();
        Check.end();
    }

    /** AWAITED is 2, and the frames up to this number are missing. */
    private static Side missing(int number) {
        Side side = Side.loggedOn();
        Check.same("early", side.deliver(Side.HEARTBEAT, number, 0, 0, 0), TradeLink.EARLY);
        side.state("early", 2, 3, number, true);
        return side;
    }

    private static void begins() {
        Side turn = Side.loggedOn();
        turn.deliver(Side.HEARTBEAT, 2, 0, 0, 0);
        turn.sent("number 2 of 2");
        turn.state("number 2 of 2", 3, 2, 0, true);
        Side one = Side.loggedOn();
        one.deliver(Side.HEARTBEAT, 3, 0, 0, 0);
        one.sent("number 3 of 2", "35=2|34=2|7=2|16=0|");
        one.state("number 3 of 2", 2, 3, 3, true);
        Side first = new Side();
        first.deliver(Side.LOGON, 1, 30, 0, 0);
        first.state("a LOGON with number 1", 2, 2, 0, true);
        Side second = new Side();
        second.deliver(Side.LOGON, 2, 30, 0, 0);
        second.sent("a LOGON with number 2", "35=A|34=1|108=30|", "35=2|34=2|7=1|16=0|");
        second.state("a LOGON with number 2", 1, 3, 2, true);
    }

    private static void growsOnly() {
        int[] numbers = {5, 4, 3, 5, 6, 5, 7, 999998, 7, 999999, 3};
        int[] due = {5, 5, 5, 5, 6, 6, 7, 999998, 999998, 999999, 999999};
        Side side = Side.loggedOn();
        for (int i = 0; i < numbers.length; i++) {
            side.deliver(Side.HEARTBEAT, numbers[i], 0, 0, 0);
            side.state("number " + numbers[i], 2, 3, due[i], true);
        }
    }

    private static void endsByFramesInTheirTurn() {
        Side side = missing(4);
        side.deliverDuplicate(Side.HEARTBEAT, 2, 0, 0, 0);
        side.state("2 of 4", 3, 3, 4, true);
        side.deliverDuplicate(Side.HEARTBEAT, 3, 0, 0, 0);
        side.state("3 of 4", 4, 3, 4, true);
        side.deliverDuplicate(Side.HEARTBEAT, 4, 0, 0, 0);
        side.state("4 of 4", 5, 3, 0, true);
        side.deliver(Side.HEARTBEAT, 5, 0, 0, 0);
        side.state("5 behind 4", 6, 3, 0, true);
    }

    private static void endsByFill() {
        int[] up = {0, 1, 2, 3, 4, 8, 9, 10, 999999};
        int[] awaited = {3, 3, 3, 3, 4, 8, 9, 10, 999999};
        int[] left = {9, 9, 9, 9, 9, 9, 9, 0, 0};
        for (int i = 0; i < up.length; i++) {
            Side side = missing(9);
            Check.same("FILL to " + up[i], side.deliverDuplicate(Side.RESET, 2, up[i], 1, 0), TradeLink.DONE);
            side.sent("FILL to " + up[i]);
            side.state("FILL to " + up[i], awaited[i], 3, left[i], true);
        }
        Side last = missing(3);
        last.deliverDuplicate(Side.HEARTBEAT, 2, 0, 0, 0);
        last.deliverDuplicate(Side.RESET, 3, 0, 1, 0);
        last.state("a FILL as the last one", 4, 3, 0, true);
    }

    private static void endsByReset() {
        int[] up = {0, 2, 3, 8, 9, 10, 999999};
        int[] awaited = {2, 2, 3, 8, 9, 10, 999999};
        int[] left = {9, 9, 9, 9, 9, 0, 0};
        for (int i = 0; i < up.length; i++) {
            Side side = missing(9);
            int due = up[i] > 2 ? TradeLink.DONE : TradeLink.IGNORED;
            Check.same("RESET to " + up[i], side.deliver(Side.RESET, 0, up[i], 0, 0), due);
            side.state("RESET to " + up[i], awaited[i], 3, left[i], true);
        }
    }

    private static void endsWithTheSession() {
        Side restarted = missing(9);
        restarted.on().restart();
        restarted.state("restart", 2, 3, 0, false);
        Side turn = missing(9);
        turn.deliver(Side.LOGOUT, 2, 0, 0, 0);
        turn.state("a LOGOUT in its turn", 3, 4, 0, false);
        Side early = missing(9);
        Check.same("an early LOGOUT", early.deliver(Side.LOGOUT, 12, 0, 0, 0), TradeLink.EARLY);
        early.state("an early LOGOUT", 2, 4, 0, false);
        Side low = missing(9);
        Check.same("a low frame", low.deliver(Side.HEARTBEAT, 1, 0, 0, 0), TradeLink.LOW);
        low.state("a low frame", 2, 4, 0, false);
        Side silent = missing(9);
        silent.ticks(23);
        Check.same("23 ticks", silent.on().session(2), 9);
        silent.ticks(1);
        Check.same("24 ticks: MISSING", silent.on().session(2), 0);
        Check.same("24 ticks: IN", silent.on().session(3), 0);
    }

    /** What was missing in the session before is asked for only when a number is early again. */
    private static void isNotThereBehindALogOn() {
        Side side = missing(9);
        side.on().restart();
        side.deliver(Side.LOGON, 2, 30, 0, 0);
        side.sent("a LOGON in its turn", "35=A|34=3|108=30|");
        side.state("a LOGON in its turn", 3, 4, 0, true);
        side.ticks(9);
        side.sent("it does not ask");
        Side early = missing(9);
        early.on().restart();
        early.deliver(Side.LOGON, 4, 30, 0, 0);
        early.sent("an early LOGON", "35=A|34=3|108=30|", "35=2|34=4|7=2|16=0|");
        early.state("an early LOGON", 2, 5, 4, true);
    }

    private static void asksOnce() {
        Side side = missing(4);
        for (int number : new int[] {3, 4, 5, 999999}) {
            side.deliver(Side.HEARTBEAT, number, 0, 0, 0);
            side.sent("number " + number + " while MISSING");
        }
        side.deliver(Side.LOGON, 6, 30, 0, 0);
        side.sent("a LOGON while IN and MISSING");
        Check.same("NEXT", side.on().session(1), 3);
    }

    private static void asksAnew() {
        Side side = missing(3);
        side.deliver(Side.RESET, 0, 4, 0, 0);
        side.deliver(Side.HEARTBEAT, 5, 0, 0, 0);
        side.sent("missing again, in the same time", "35=2|34=3|7=4|16=0|");
        side.state("missing again", 4, 4, 5, true);
        side.deliver(Side.RESET, 0, 5, 0, 0);
        side.deliver(Side.HEARTBEAT, 6, 0, 0, 0);
        side.sent("still missing");
        side.state("still missing", 5, 4, 6, true);
    }

    private static void highestNumber() {
        Side side = missing(999999);
        side.deliver(Side.RESET, 0, 999999, 0, 0);
        side.state("AWAITED is the highest", 999999, 3, 999999, true);
        side.deliver(Side.HEARTBEAT, 999999, 0, 0, 0);
        side.state("behind the highest", 1000000, 3, 0, true);
        Check.same("no RESET goes on", side.deliver(Side.RESET, 999999, 999999, 0, 0), TradeLink.IGNORED);
        Check.same("a duplicate", side.deliverDuplicate(Side.TEST, 999999, 1, 0, 0), TradeLink.IGNORED);
        Check.same("all other frames are low", side.deliver(Side.TEST, 999999, 1, 0, 0), TradeLink.LOW);
        side.sent("low", "35=5|34=3|");
        Check.same("a LOGON is low", side.deliver(Side.LOGON, 999999, 30, 0, 0), TradeLink.LOW);
        side.sent("low while OUT");
        side.state("no number is left", 1000000, 4, 0, false);
        Side fill = Side.loggedOn();
        fill.deliver(Side.RESET, 0, 999999, 0, 0);
        Check.same("a FILL with the highest number", fill.deliver(Side.RESET, 999999, 999999, 1, 0), TradeLink.DONE);
        fill.state("a FILL with the highest number", 1000000, 2, 0, true);
    }
}
