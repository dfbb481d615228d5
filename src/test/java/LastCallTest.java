import java.util.NoSuchElementException;
import java.util.function.ToIntFunction;

/** "An object is used for at most 512 calls": the 512th is still answered, whatever the others have filled. */
public final class LastCallTest {
    private static final int MOST_CALLS = 512;

    public static void main(String[] args) {
        ticks();
        mostReports();
        lastReport();
        mostReportsWhileOut();
        mostUsedIds();
        mostRefusals();
        longestAskedFor();
        refusedCalls();
        Check.end();
    }

    private static void ticks() {
        Side side = new Side();
        for (int time = 1; time <= MOST_CALLS; time++) {
            Check.same("tick", side.on().tick(), time);
        }
        side.checkCalls(MOST_CALLS);
    }

    /** The LOGON is number 1, the report on the NEW 2, then a report for each fill: 505 of them. */
    private static Side withFills(int fills) {
        Side side = Side.loggedOn();
        side.deliver(Side.NEW, 2, 999999, 1, 999999);
        for (int i = 1; i <= fills; i++) {
            Check.same("fill", side.on().fill(999999, 1), i);
        }
        return side;
    }

    private static int last(int fills, int from, int to, ToIntFunction<TradeLink> call) {
        Side side = withFills(fills);
        Check.same("RESEND", side.deliver(Side.RESEND, 3, from, to, 0), TradeLink.DONE);
        int answer = call.applyAsInt(side.on());
        side.checkCalls(fills + 7);
        return answer;
    }

    private static void mostReports() {
        Check.same("all of them", last(505, 1, 0, link -> link.frames()), 507);
        Check.same("up to the last", last(505, 2, 507, link -> link.frames()), 506);
        Check.same("up to the last but one", last(505, 2, 506, link -> link.frames()), 505);
        Check.same("the last", last(505, 507, 999999, link -> link.frames()), 1);
        Check.same("behind the last", last(505, 508, 0, link -> link.frames()), 0);
        Check.same("NEXT", last(505, 1, 0, link -> link.session(1)), 508);
        Check.same("filled", last(505, 1, 0, link -> link.order(999999, 2)), 505);
        Check.same("the twentieth", last(505, 1, 0, link -> link.length(19)), 64);
    }

    private static void lastReport() {
        String due = Side.frame("35=8|34=507|43=Y|11=999999|39=1|14=505|151=999494|").replace('|', (char) 1);
        Check.same("its length", last(505, 507, 0, link -> link.length(0)), due.length());
        for (int i = 0; i < due.length(); i++) {
            int at = i;
            Check.same("byte " + i, last(505, 507, 0, link -> link.octet(0, at)), due.charAt(i));
        }
    }

    private static void mostReportsWhileOut() {
        Side side = Side.loggedOn();
        side.deliver(Side.NEW, 2, 7, 1, 999999);
        side.on().restart();
        for (int i = 1; i <= 502; i++) {
            side.on().fill(7, 1);
        }
        Check.same("a LOGON", side.deliver(Side.LOGON, 3, 30, 0, 0), TradeLink.DONE);
        Check.same("a RESEND", side.deliver(Side.RESEND, 4, 3, 0, 0), TradeLink.DONE);
        Check.same("502 reports and the LOGON", side.on().frames(), 503);
        side.checkCalls(MOST_CALLS);
    }

    /** A NEW and 252 CHANGEs: each of their ids is used, and the next one is not. */
    private static void mostUsedIds() {
        for (int id : new int[] {1, 2, 100, 252, 253, 254}) {
            Side side = Side.loggedOn();
            side.deliver(Side.NEW, 2, 1, 1, 10);
            for (int change = 2; change <= 253; change++) {
                Check.same("CHANGE", side.deliver(Side.CHANGE, change + 1, change, change - 1, 10), TradeLink.DONE);
            }
            Check.same("NEW", side.deliver(Side.NEW, 255, id, 1, 10), TradeLink.DONE);
            Check.same("messages", side.on().session(6), 254);
            Check.same("orders, behind id " + id, side.on().session(5), id == 254 ? 2 : 1);
            side.checkCalls(MOST_CALLS);
        }
    }

    private static void mostRefusals() {
        Side side = Side.loggedOn();
        for (int number = 2; number <= 255; number++) {
            side.deliver(Side.NEW, number, number, 3, 10);
        }
        Check.same("messages", side.on().session(6), 254);
        Check.same("orders", side.on().session(5), 0);
        side.checkCalls(MOST_CALLS);
    }

    /** Sessions that begin early send the most messages of their own: two for three calls. */
    private static void longestAskedFor() {
        Side side = new Side();
        for (int i = 1; i <= 169; i++) {
            Check.same("an early LOGON", side.deliver(Side.LOGON, 999999, 30, 0, 0), TradeLink.EARLY);
            side.on().restart();
        }
        Check.same("NEXT", side.on().session(1), 339);
        Check.same("a LOGON", side.deliver(Side.LOGON, 1, 30, 0, 0), TradeLink.DONE);
        side.deliver(Side.HEARTBEAT, 2, 0, 0, 0);
        side.checkCalls(MOST_CALLS);
        Side other = new Side();
        for (int i = 1; i <= 169; i++) {
            other.deliver(Side.LOGON, 2, 30, 0, 0);
            other.on().restart();
        }
        other.deliver(Side.LOGON, 1, 30, 0, 0);
        Check.same("a RESEND", other.deliver(Side.RESEND, 2, 0, 0, 0), TradeLink.DONE);
        Check.same("one FILL for all", other.on().frames(), 1);
        other.checkCalls(MOST_CALLS);
    }

    private static void refusedCalls() {
        Side side = new Side();
        for (int i = 1; i < MOST_CALLS; i++) {
            Check.throwing("take", IllegalStateException.class, () -> side.on().take());
        }
        Check.throwing("the last one", NoSuchElementException.class, () -> side.on().fill(1, 1));
        side.checkCalls(MOST_CALLS);
    }
}
