/** Promise 6: tick. */
public final class TickTest {
    public static void main(String[] args) {
        whileOut();
        silence();
        heardAgain();
        whatIsHeard();
        heartbeats();
        asksAgain();
        Check.end();
    }

    private static void whileOut() {
        Side side = new Side();
        for (int time = 1; time <= 40; time++) {
            Check.same("tick", side.on().tick(), time);
            side.sent("while OUT");
        }
        Check.same("the time", side.on().session(4), 40);
        side.deliver(Side.LOGON, 1, 30, 0, 0);
        side.on().tick();
        side.sent("heard and said at 40");
    }

    private static void silence() {
        Side side = Side.loggedOn();
        for (int time = 1; time <= 26; time++) {
            Check.same("tick", side.on().tick(), time);
            if (time == 10) {
                side.sent("time 10", "35=0|34=2|");
            } else if (time == 12) {
                side.sent("time 12", "35=1|34=3|112=12|");
            } else if (time == 22) {
                side.sent("time 22", "35=0|34=4|");
            } else if (time == 24) {
                side.sent("time 24", "35=5|34=5|");
                side.state("time 24", 2, 6, 0, false);
            } else {
                side.sent("time " + time);
            }
        }
        side.state("time 26", 2, 6, 0, false);
    }

    private static void heardAgain() {
        Side side = Side.loggedOn();
        side.ticks(23);
        side.deliver(Side.HEARTBEAT, 2, 0, 0, 0);
        side.ticks(11);
        side.state("23 and 11", 3, 6, 0, true);
        side.ticks(1);
        side.sent("12 behind it", "35=1|34=6|112=35|");
        side.ticks(11);
        Check.same("23 behind it", side.on().session(3), 1);
        side.ticks(1);
        side.sent("24 behind it", "35=5|34=8|");
    }

    /** Every frame that is not garbled is heard, also one that is ignored or early. */
    private static void whatIsHeard() {
        Side side = Side.loggedOn();
        side.ticks(11);
        Check.same("a low duplicate", side.deliverDuplicate(Side.HEARTBEAT, 1, 0, 0, 0), TradeLink.IGNORED);
        side.ticks(1);
        side.sent("a low duplicate is heard");
        side.ticks(10);
        Check.same("a RESET for nothing", side.deliver(Side.RESET, 1, 1, 0, 0), TradeLink.IGNORED);
        side.ticks(1);
        side.sent("a RESET is heard");
        side.ticks(10);
        Check.same("an early one", side.deliver(Side.HEARTBEAT, 5, 0, 0, 0), TradeLink.EARLY);
        side.ticks(1);
        side.sent("an early one is heard");
    }

    private static void heartbeats() {
        Side side = Side.loggedOn();
        side.ticks(9);
        side.deliver(Side.NEW, 2, 7, 1, 10);
        side.ticks(9);
        side.sent("9 behind a report");
        side.deliver(Side.HEARTBEAT, 3, 0, 0, 0);
        side.ticks(1);
        side.sent("10 behind a report", "35=0|34=3|");
        side.on().fill(7, 1);
        side.ticks(9);
        side.sent("9 behind a fill");
        side.ticks(1);
        side.sent("10 behind a fill", "35=0|34=5|");
        side.on().restart();
        side.on().fill(7, 1);
        side.ticks(20);
        side.sent("OUT");
    }

    private static void asksAgain() {
        Side side = Side.loggedOn();
        side.ticks(2);
        side.deliver(Side.HEARTBEAT, 5, 0, 0, 0);
        side.sent("it asks", "35=2|34=2|7=2|16=0|");
        side.ticks(7);
        side.sent("7 behind it");
        side.deliver(Side.HEARTBEAT, 2, 0, 0, 0);
        side.ticks(1);
        side.sent("8 behind it, from AWAITED", "35=2|34=3|7=3|16=0|");
        side.ticks(7);
        side.deliver(Side.HEARTBEAT, 6, 0, 0, 0);
        side.sent("it has asked");
        side.ticks(1);
        side.sent("8 behind that", "35=2|34=4|7=3|16=0|");
        side.state("missing", 3, 5, 6, true);
        side.deliver(Side.RESET, 0, 7, 0, 0);
        side.ticks(8);
        side.sent("nothing is missing");

        Side both = Side.loggedOn();
        both.ticks(4);
        both.deliver(Side.HEARTBEAT, 5, 0, 0, 0);
        both.ticks(8);
        both.deliver(Side.HEARTBEAT, 6, 0, 0, 0);
        both.ticks(8);
        both.sent("8 behind, at 20", "35=2|34=4|7=2|16=0|");
        both.ticks(4);
        both.sent("a TEST at 24", "35=1|34=5|112=24|");
        both.ticks(4);
        both.sent("it asks at 28", "35=2|34=6|7=2|16=0|");

        Side together = Side.loggedOn();
        together.deliver(Side.HEARTBEAT, 5, 0, 0, 0);
        together.ticks(4);
        together.deliver(Side.HEARTBEAT, 6, 0, 0, 0);
        together.ticks(12);
        together.sent("a TEST, then it asks", "35=1|34=4|112=16|", "35=2|34=5|7=2|16=0|");
    }
}
