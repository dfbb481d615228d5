import java.util.function.Consumer;

/** Terms, "a TICK": one tick before each limit, on it and behind it, and what comes first when several are met. */
public final class TickLimitsTest {
    public static void main(String[] args) {
        timeGrowsAlways();
        heardLimits();
        heardAtALogOn();
        everyFrameIsHeard();
        notHeard();
        askedLimits();
        askedIsNotMovedByEarlyFrames();
        saidLimits();
        everyMessageIsSaid();
        testInThePlaceOfAHeartbeat();
        logOutAlone();
        nothingWhileOut();
        Check.end();
    }

    private static void timeGrowsAlways() {
        Side side = new Side();
        Check.same("new", side.on().session(4), 0);
        Check.same("OUT", side.on().tick(), 1);
        side.deliver(Side.LOGON, 1, 30, 0, 0);
        Check.same("IN", side.on().tick(), 2);
        side.on().restart();
        Check.same("behind a restart", side.on().tick(), 3);
        for (int time = 4; time <= 200; time++) {
            Check.same("tick", side.on().tick(), time);
        }
        Check.same("the time", side.on().session(4), 200);
    }

    /** Something is said at each time, so that no HEARTBEAT of this side is due. */
    private static void heardLimits() {
        Side side = Side.loggedOn();
        side.deliver(Side.NEW, 2, 7, 1, 100);
        for (int time = 1; time <= 30; time++) {
            side.on().fill(7, 1);
            side.on().tick();
            switch (time) {
                case 12 -> side.sent("12 back", "35=1|34=15|112=12|");
                case 24 -> side.sent("24 back", "35=5|34=28|");
                default -> side.sent(time + " back");
            }
            Check.same("IN at " + time, side.on().session(3), time < 24 ? 1 : 0);
        }
    }

    private static void heardAtALogOn() {
        Side side = new Side();
        side.ticks(50);
        side.deliver(Side.LOGON, 1, 30, 0, 0);
        side.ticks(11);
        Check.same("11 behind it: messages", side.on().session(1), 3);
        side.ticks(1);
        side.sent("12 behind it", "35=1|34=3|112=62|");
        side.ticks(11);
        Check.same("23 behind it", side.on().session(3), 1);
        side.ticks(1);
        side.sent("24 behind it", "35=5|34=5|");
        side.ticks(3);
        side.deliver(Side.LOGON, 2, 30, 0, 0);
        side.ticks(23);
        Check.same("23 behind another", side.on().session(3), 1);
        side.ticks(1);
        Check.same("24 behind another", side.on().session(3), 0);
    }

    /** Each is heard one tick before the end, and the next end is 24 behind it. */
    private static void everyFrameIsHeard() {
        heard("HEARTBEAT", '0', 2, false, 0, 0, 0);
        heard("TEST", '1', 2, false, 5, 0, 0);
        heard("RESEND for nothing", '2', 2, false, 999, 999, 0);
        heard("RESET", '4', 2, false, 9, 0, 0);
        heard("RESET for nothing", '4', 2, false, 2, 0, 0);
        heard("RESET with a low number", '4', 0, false, 0, 0, 0);
        heard("FILL", '4', 2, false, 9, 1, 0);
        heard("LOGON", 'A', 2, false, 30, 0, 0);
        heard("NEW that is refused", 'D', 2, false, 0, 0, 0);
        heard("CANCEL that is refused", 'F', 2, false, 0, 0, 0);
        heard("CHANGE that is refused", 'G', 2, false, 0, 0, 0);
        heard("an early frame", '0', 3, false, 0, 0, 0);
        heard("an early duplicate", '0', 999999, true, 0, 0, 0);
        heard("a low duplicate", '0', 1, true, 0, 0, 0);
        heard("a low duplicate LOGOUT", '5', 0, true, 0, 0, 0);
        heard("a low duplicate LOGON", 'A', 1, true, 30, 0, 0);
    }

    private static void heard(String what, int type, int number, boolean duplicate, int a, int b, int c) {
        Side side = Side.loggedOn();
        side.ticks(23);
        side.on().give(type, number, duplicate, a, b, c);
        Check.same(what + " before it is taken", side.on().session(3), 1);
        side.on().take();
        side.ticks(12);
        Check.same(what + ": a TEST 12 behind it", side.on().octet(0, 12), '1');
        side.ticks(11);
        Check.same(what + ": 23 behind it", side.on().session(3), 1);
        side.ticks(1);
        Check.same(what + ": 24 behind it", side.on().session(3), 0);
    }

    /** A garbled frame is not, nor one that is given and not taken; nor do this side's own messages count. */
    private static void notHeard() {
        Side garbled = Side.loggedOn();
        garbled.ticks(23);
        garbled.on().give(Side.HEARTBEAT, 2, false, 0, 0, 0);
        garbled.on().spoil(3, 2);
        Check.same("garbled", garbled.on().take(), TradeLink.GARBLED);
        garbled.ticks(1);
        Check.same("garbled: IN", garbled.on().session(3), 0);
        Side waiting = Side.loggedOn();
        waiting.ticks(23);
        waiting.on().give(Side.HEARTBEAT, 2, false, 0, 0, 0);
        waiting.ticks(1);
        Check.same("not taken: IN", waiting.on().session(3), 0);
        Check.same("it is there still", waiting.on().take(), TradeLink.IGNORED);
    }

    private static void askedLimits() {
        Side side = Side.loggedOn();
        side.ticks(1);
        side.deliver(Side.HEARTBEAT, 5, 0, 0, 0);
        side.sent("it asks at 1", "35=2|34=2|7=2|16=0|");
        for (int time = 2; time <= 24; time++) {
            side.on().tick();
            switch (time) {
                case 9 -> side.sent("8 back", "35=2|34=3|7=2|16=0|");
                case 13 -> side.sent("HEARD is 12 back", "35=1|34=4|112=13|");
                case 17 -> side.sent("8 back again", "35=2|34=5|7=2|16=0|");
                default -> side.sent("time " + time);
            }
        }
        side.on().tick();
        side.sent("HEARD is 24 back, and ASKED 8", "35=5|34=6|");
        side.state("time 25", 2, 7, 0, false);
    }

    private static void askedIsNotMovedByEarlyFrames() {
        Side side = Side.loggedOn();
        side.deliver(Side.HEARTBEAT, 5, 0, 0, 0);
        for (int time = 1; time <= 7; time++) {
            side.ticks(1);
            side.sent("time " + time);
            side.deliver(Side.HEARTBEAT, 5 + time, 0, 0, 0);
        }
        side.ticks(1);
        side.sent("8 back, from AWAITED", "35=2|34=3|7=2|16=0|");
        side.ticks(6);
        side.deliver(Side.RESET, 0, 12, 0, 0);
        side.ticks(1);
        side.sent("7 back");
        side.ticks(1);
        side.sent("8 back, the last that is missing", "35=2|34=4|7=12|16=0|");
        side.deliver(Side.HEARTBEAT, 12, 0, 0, 0);
        side.ticks(8);
        side.sent("nothing is missing");
        side.deliver(Side.HEARTBEAT, 14, 0, 0, 0);
        side.sent("it asks at 24", "35=2|34=5|7=13|16=0|");
        side.ticks(7);
        side.sent("7 behind that");
        side.ticks(1);
        side.sent("8 behind that", "35=2|34=6|7=13|16=0|");
    }

    private static void saidLimits() {
        Side side = Side.loggedOn();
        side.ticks(9);
        side.sent("9 back");
        side.ticks(1);
        side.sent("10 back", "35=0|34=2|");
        side.deliver(Side.HEARTBEAT, 2, 0, 0, 0);
        side.sent("a HEARTBEAT is not answered");
        side.ticks(1);
        side.sent("1 back");
        side.ticks(8);
        side.sent("9 back");
        side.ticks(1);
        side.sent("10 back again", "35=0|34=3|");
    }

    /** Each is said at 5, so that the next HEARTBEAT is due at 15; the peer is heard at 5, too. */
    private static void everyMessageIsSaid() {
        said("a HEARTBEAT with 112", 15, side -> side.deliver(Side.TEST, 3, 9, 0, 0));
        said("a RESEND", 15, side -> {
            side.deliver(Side.HEARTBEAT, 3, 0, 0, 0);
            side.deliver(Side.HEARTBEAT, 5, 0, 0, 0);
            side.deliver(Side.RESET, 0, 6, 0, 0);
        });
        said("a report", 15, side -> side.deliver(Side.NEW, 3, 8, 1, 10));
        said("a refusal", 15, side -> side.deliver(Side.NEW, 3, 7, 1, 10));
        said("a fill", 15, side -> {
            side.deliver(Side.HEARTBEAT, 3, 0, 0, 0);
            side.on().fill(7, 1);
        });
        said("a LOGON", 15, side -> {
            side.on().restart();
            side.deliver(Side.LOGON, 3, 30, 0, 0);
        });
        said("a report sent again", 15, side -> side.deliver(Side.RESEND, 3, 2, 2, 0));
        said("a FILL sent", 15, side -> side.deliver(Side.RESEND, 3, 1, 1, 0));
        said("a RESEND for nothing", 10, side -> side.deliver(Side.RESEND, 3, 3, 0, 0));
        said("a HEARTBEAT from the peer", 10, side -> side.deliver(Side.HEARTBEAT, 3, 0, 0, 0));
        said("a FILL from the peer", 10, side -> side.deliver(Side.RESET, 3, 9, 1, 0));
    }

    private static void said(String what, int due, Consumer<Side> said) {
        Side side = Side.loggedOn();
        side.deliver(Side.NEW, 2, 7, 1, 10);
        side.ticks(5);
        said.accept(side);
        int next = side.on().session(1);
        for (int time = 6; time < due; time++) {
            side.on().tick();
            side.sent(what + ": time " + time);
        }
        side.on().tick();
        side.sent(what + ": time " + due, "35=0|34=" + next + "|");
    }

    private static void testInThePlaceOfAHeartbeat() {
        Side side = Side.loggedOn();
        side.deliver(Side.NEW, 2, 7, 1, 10);
        side.ticks(2);
        side.on().fill(7, 1);
        side.ticks(10);
        side.sent("HEARD is 12 back, SAID was 10", "35=1|34=4|112=12|");
        side.ticks(9);
        side.sent("9 behind the TEST");
        side.ticks(1);
        side.sent("10 behind the TEST", "35=0|34=5|");
    }

    private static void logOutAlone() {
        Side side = Side.loggedOn();
        side.deliver(Side.NEW, 2, 7, 1, 10);
        side.ticks(14);
        side.on().fill(7, 1);
        side.ticks(9);
        side.sent("HEARD is 23 back, SAID 9");
        side.ticks(1);
        side.sent("HEARD is 24 back, SAID 10", "35=5|34=6|");
        side.state("OUT", 3, 7, 0, false);
    }

    private static void nothingWhileOut() {
        Side side = Side.loggedOn();
        side.deliver(Side.HEARTBEAT, 5, 0, 0, 0);
        side.on().restart();
        for (int time = 1; time <= 30; time++) {
            side.on().tick();
            side.sent("OUT at " + time);
        }
        side.state("OUT", 2, 3, 0, false);
    }
}
