/** Promise 5, take: the session, and the numbers of the peer's frames. */
public final class TakeTest {
    public static void main(String[] args) {
        nothingToTake();
        whileOut();
        logOn();
        inTurn();
        resets();
        fills();
        low();
        early();
        earlyLogOut();
        missingEnds();
        highestNumbers();
        Check.end();
    }

    private static void nothingToTake() {
        Side side = Side.loggedOn();
        Check.throwing("no frame", IllegalStateException.class, () -> side.on().take());
        Check.same("what was sent is as it was", side.on().frames(), 1);
    }

    private static void whileOut() {
        Side side = new Side();
        for (int type : new int[] {'0', '1', '2', '4', '5', 'D', 'F', 'G'}) {
            Check.same("OUT: type " + (char) type, side.deliver(type, 1, 5, 1, 5), TradeLink.IGNORED);
            Check.same("OUT: type " + (char) type + ", no FILL", side.deliver(type, 0, 5, 0, 5), TradeLink.IGNORED);
            side.sent("OUT");
        }
        side.state("OUT", 1, 1, 0, false);
    }

    private static void logOn() {
        Side side = new Side();
        Check.same("number 0", side.deliver(Side.LOGON, 0, 30, 0, 0), TradeLink.LOW);
        side.sent("a low LOGON while OUT");
        Check.same("number 0, a duplicate", side.deliverDuplicate(Side.LOGON, 0, 30, 0, 0), TradeLink.IGNORED);
        side.sent("a low duplicate while OUT");
        side.state("still OUT", 1, 1, 0, false);
        Check.same("a LOGON", side.deliver(Side.LOGON, 1, 0, 0, 0), TradeLink.DONE);
        side.sent("its 108 is sent", "35=A|34=1|108=0|");
        side.state("IN", 2, 2, 0, true);
        Check.same("one more", side.deliver(Side.LOGON, 2, 30, 0, 0), TradeLink.DONE);
        side.sent("nothing is sent for it");
        Check.same("an early one while IN", side.deliver(Side.LOGON, 9, 30, 0, 0), TradeLink.EARLY);
        side.sent("it asks, without a LOGON", "35=2|34=2|7=3|16=0|");
        Side other = new Side();
        Check.same("an early LOGON", other.deliverDuplicate(Side.LOGON, 4, 30, 0, 0), TradeLink.EARLY);
        other.sent("both", "35=A|34=1|108=30|", "35=2|34=2|7=1|16=0|");
        other.state("IN", 1, 3, 4, true);
    }

    private static void inTurn() {
        Side side = Side.loggedOn();
        Check.same("HEARTBEAT", side.deliver(Side.HEARTBEAT, 2, 0, 0, 0), TradeLink.DONE);
        side.sent("HEARTBEAT");
        Check.same("TEST", side.deliver(Side.TEST, 3, 77, 0, 0), TradeLink.DONE);
        side.sent("TEST", "35=0|34=2|112=77|");
        Check.same("TEST of 0", side.deliver(Side.TEST, 4, 0, 0, 0), TradeLink.DONE);
        side.sent("TEST of 0", "35=0|34=3|112=0|");
        Check.same("a duplicate in its turn", side.deliverDuplicate(Side.TEST, 5, 1, 0, 0), TradeLink.DONE);
        side.sent("a duplicate in its turn", "35=0|34=4|112=1|");
        Check.same("LOGOUT", side.deliver(Side.LOGOUT, 6, 0, 0, 0), TradeLink.DONE);
        side.sent("LOGOUT", "35=5|34=5|");
        side.state("LOGOUT", 7, 6, 0, false);
        Check.same("a LOGON again", side.deliver(Side.LOGON, 7, 1, 0, 0), TradeLink.DONE);
        side.sent("a LOGON again", "35=A|34=6|108=1|");
    }

    private static void resets() {
        Side side = Side.loggedOn();
        Check.same("36 is AWAITED", side.deliver(Side.RESET, 2, 2, 0, 0), TradeLink.IGNORED);
        Check.same("36 is below", side.deliver(Side.RESET, 2, 1, 0, 0), TradeLink.IGNORED);
        side.state("as it was", 2, 2, 0, true);
        Check.same("36 is one above", side.deliver(Side.RESET, 2, 3, 0, 0), TradeLink.DONE);
        Check.same("its number is low", side.deliver(Side.RESET, 0, 10, 0, 0), TradeLink.DONE);
        Check.same("its number is high", side.deliver(Side.RESET, 99, 20, 0, 0), TradeLink.DONE);
        side.sent("a RESET");
        side.state("AWAITED is 36", 20, 2, 0, true);
    }

    private static void fills() {
        Side side = Side.loggedOn();
        Check.same("36 is below", side.deliver(Side.RESET, 2, 1, 1, 0), TradeLink.DONE);
        side.state("AWAITED grows by 1", 3, 2, 0, true);
        Check.same("36 is the next", side.deliver(Side.RESET, 3, 4, 9, 0), TradeLink.DONE);
        side.state("AWAITED grows by 1", 4, 2, 0, true);
        Check.same("36 is above", side.deliver(Side.RESET, 4, 9, 1, 0), TradeLink.DONE);
        side.state("AWAITED is 36", 9, 2, 0, true);
        side.sent("a FILL");
        Check.same("a low duplicate", side.deliverDuplicate(Side.RESET, 8, 99, 1, 0), TradeLink.IGNORED);
        Check.same("an early one", side.deliver(Side.RESET, 10, 99, 1, 0), TradeLink.EARLY);
        side.state("does nothing yet", 9, 3, 10, true);
        Check.same("a low one", side.deliver(Side.RESET, 8, 99, 1, 0), TradeLink.LOW);
        side.state("ends the session", 9, 4, 0, false);
    }

    private static void low() {
        Side side = Side.loggedOn();
        side.deliver(Side.NEW, 2, 7, 1, 10);
        Check.same("a low duplicate", side.deliverDuplicate(Side.CANCEL, 2, 8, 7, 0), TradeLink.IGNORED);
        side.sent("a low duplicate");
        Check.same("a low duplicate LOGOUT", side.deliverDuplicate(Side.LOGOUT, 1, 0, 0, 0), TradeLink.IGNORED);
        side.state("it is IN", 3, 3, 0, true);
        side.order("the order stays", 7, 1, 10, 0, 0);
        side.deliver(Side.HEARTBEAT, 9, 0, 0, 0);
        Check.same("a low one", side.deliver(Side.CANCEL, 2, 8, 7, 0), TradeLink.LOW);
        side.sent("a low one", "35=5|34=4|");
        side.state("it is OUT", 3, 5, 0, false);
        side.order("the order stays", 7, 1, 10, 0, 0);
        Check.same("messages of orders", side.on().session(6), 1);
        Check.same("a low LOGON", side.deliver(Side.LOGON, 2, 30, 0, 0), TradeLink.LOW);
        side.sent("a low LOGON while OUT");
    }

    private static void early() {
        Side side = Side.loggedOn();
        Check.same("an early order", side.deliver(Side.NEW, 4, 7, 1, 10), TradeLink.EARLY);
        side.sent("it asks", "35=2|34=2|7=2|16=0|");
        side.state("missing", 2, 3, 4, true);
        Check.same("no order", side.on().session(5), 0);
        Check.same("not in its turn", side.on().session(6), 0);
        Check.same("a lower early one", side.deliver(Side.TEST, 3, 5, 0, 0), TradeLink.EARLY);
        side.sent("it has asked, and answers no TEST");
        side.state("missing", 2, 3, 4, true);
        Check.same("a higher one", side.deliver(Side.HEARTBEAT, 6, 0, 0, 0), TradeLink.EARLY);
        side.sent("it has asked");
        side.state("missing", 2, 3, 6, true);
    }

    private static void earlyLogOut() {
        Side side = Side.loggedOn();
        Check.same("an early LOGOUT", side.deliver(Side.LOGOUT, 4, 0, 0, 0), TradeLink.EARLY);
        side.sent("it ends the session", "35=5|34=2|");
        side.state("OUT", 2, 3, 0, false);
        side.deliver(Side.LOGON, 3, 30, 0, 0);
        side.sent("a LOGON behind it", "35=A|34=3|108=30|", "35=2|34=4|7=2|16=0|");
        side.state("missing", 2, 5, 3, true);
    }

    private static void missingEnds() {
        Side side = Side.loggedOn();
        side.deliver(Side.HEARTBEAT, 4, 0, 0, 0);
        side.deliverDuplicate(Side.HEARTBEAT, 2, 0, 0, 0);
        side.deliverDuplicate(Side.HEARTBEAT, 3, 0, 0, 0);
        side.state("AWAITED is the last that is missing", 4, 3, 4, true);
        side.deliverDuplicate(Side.HEARTBEAT, 4, 0, 0, 0);
        side.state("in its turn", 5, 3, 0, true);
        side.deliver(Side.HEARTBEAT, 9, 0, 0, 0);
        side.sent("it asks anew", "35=2|34=3|7=5|16=0|");
        side.deliverDuplicate(Side.RESET, 5, 9, 1, 0);
        side.state("a FILL up to it", 9, 4, 9, true);
        side.deliver(Side.RESET, 0, 10, 0, 0);
        side.state("a RESET behind it", 10, 4, 0, true);
        side.deliver(Side.HEARTBEAT, 15, 0, 0, 0);
        side.deliver(Side.RESET, 10, 16, 1, 0);
        side.state("a FILL behind it", 16, 5, 0, true);
        side.deliver(Side.HEARTBEAT, 20, 0, 0, 0);
        side.deliver(Side.LOGOUT, 16, 0, 0, 0);
        side.state("the session is OUT", 17, 7, 0, false);
    }

    private static void highestNumbers() {
        Side side = Side.loggedOn();
        Check.same("the highest early one", side.deliver(Side.HEARTBEAT, 999999, 0, 0, 0), TradeLink.EARLY);
        side.state("missing", 2, 3, 999999, true);
        side.deliver(Side.RESET, 0, 999999, 0, 0);
        side.state("still missing", 999999, 3, 999999, true);
        side.ticks(8);
        side.sent("it asks again", "35=2|34=3|7=999999|16=0|");
        Check.same("the highest", side.deliver(Side.HEARTBEAT, 999999, 0, 0, 0), TradeLink.DONE);
        side.state("behind the highest", 1000000, 4, 0, true);
        Check.same("36 is the highest", side.deliver(Side.RESET, 0, 999999, 0, 0), TradeLink.IGNORED);
        Check.same("the highest again", side.deliver(Side.HEARTBEAT, 999999, 0, 0, 0), TradeLink.LOW);
    }
}
