import java.util.ArrayList;
import java.util.List;

/** Promise 5, take: how a RESEND is answered. */
public final class ResendTest {
    private static final String FIRST = "35=8|34=2|43=Y|11=7|39=0|14=0|151=10|";
    private static final String SECOND = "35=8|34=5|43=Y|11=7|39=1|14=4|151=6|";
    private static final String THIRD = "35=8|34=6|43=Y|11=7|39=8|14=0|151=0|";

    public static void main(String[] args) {
        ranges();
        whatReportsSaid();
        early();
        afterRestart();
        nothingSentSaysNothing();
        everyRange();
        oneMessage();
        changesNothing();
        Check.end();
    }

    /** Its messages: 1 LOGON, 2 a report, 3 and 4 HEARTBEATs, 5 and 6 reports, 7 a HEARTBEAT. */
    private static Side withReports() {
        Side side = Side.loggedOn();
        side.deliver(Side.NEW, 2, 7, 1, 10);
        side.deliver(Side.TEST, 3, 1, 0, 0);
        side.deliver(Side.TEST, 4, 1, 0, 0);
        side.on().fill(7, 4);
        side.deliver(Side.NEW, 5, 7, 1, 10);
        side.deliver(Side.TEST, 6, 1, 0, 0);
        Check.same("messages so far", side.on().session(1), 8);
        return side;
    }

    private static void ranges() {
        String all = "35=4|34=1|43=Y|36=2|123=Y|";
        String middle = "35=4|34=3|43=Y|36=5|123=Y|";
        String end = "35=4|34=7|43=Y|36=8|123=Y|";
        answer(1, 0, all, FIRST, middle, SECOND, THIRD, end);
        answer(0, 0, all, FIRST, middle, SECOND, THIRD, end);
        answer(1, 7, all, FIRST, middle, SECOND, THIRD, end);
        answer(1, 8, all, FIRST, middle, SECOND, THIRD, end);
        answer(1, 999999, all, FIRST, middle, SECOND, THIRD, end);
        answer(1, 6, all, FIRST, middle, SECOND, THIRD);
        answer(0, 1, all);
        answer(2, 2, FIRST);
        answer(2, 3, FIRST, "35=4|34=3|43=Y|36=4|123=Y|");
        answer(3, 4, middle);
        answer(4, 5, "35=4|34=4|43=Y|36=5|123=Y|", SECOND);
        answer(4, 4, "35=4|34=4|43=Y|36=5|123=Y|");
        answer(6, 0, THIRD, end);
        answer(7, 0, end);
        answer(8, 0);
        answer(8, 8);
        answer(999999, 0);
        answer(5, 4);
        answer(5, 1);
    }

    private static void answer(int from, int to, String... due) {
        Side side = withReports();
        String what = "RESEND " + from + " " + to;
        Check.same(what, side.deliver(Side.RESEND, 7, from, to, 0), TradeLink.DONE);
        side.sent(what, due);
        side.state(what, 8, 8, 0, true);
    }

    private static void whatReportsSaid() {
        Side side = withReports();
        side.on().fill(7, 6);
        side.deliver(Side.RESEND, 7, 2, 2, 0);
        side.sent("a report says what it said", FIRST);
        side.deliver(Side.RESEND, 8, 2, 2, 0);
        side.sent("and once more", FIRST);
        side.deliver(Side.RESEND, 9, 8, 0, 0);
        side.sent("the last one", "35=8|34=8|43=Y|11=7|39=2|14=10|151=0|");
    }

    private static void early() {
        Side side = withReports();
        Check.same("an early RESEND", side.deliver(Side.RESEND, 9, 6, 0, 0), TradeLink.EARLY);
        side.sent("the answer, then it asks", THIRD, "35=4|34=7|43=Y|36=8|123=Y|", "35=2|34=8|7=7|16=0|");
        side.state("missing", 7, 9, 9, true);
        Check.same("one more", side.deliver(Side.RESEND, 8, 8, 0, 0), TradeLink.EARLY);
        side.sent("the answer alone", "35=4|34=8|43=Y|36=9|123=Y|");
        Check.same("a low duplicate", side.deliverDuplicate(Side.RESEND, 2, 1, 0, 0), TradeLink.IGNORED);
        side.sent("is not answered");
    }

    private static void afterRestart() {
        Side side = withReports();
        side.on().restart();
        side.on().fill(7, 1);
        side.sent("a report while OUT");
        Check.same("a RESEND while OUT", side.deliver(Side.RESEND, 7, 1, 0, 0), TradeLink.IGNORED);
        side.deliver(Side.LOGON, 7, 30, 0, 0);
        side.sent("the LOGON behind it", "35=A|34=9|108=30|");
        side.deliver(Side.RESEND, 8, 5, 0, 0);
        side.sent("all are stored", SECOND, THIRD, "35=4|34=7|43=Y|36=8|123=Y|",
            "35=8|34=8|43=Y|11=7|39=1|14=5|151=5|", "35=4|34=9|43=Y|36=10|123=Y|");
    }

    /** What is sent again counts as said; an answer without frames does not. */
    private static void nothingSentSaysNothing() {
        Side side = withReports();
        side.ticks(4);
        side.deliver(Side.RESEND, 7, 8, 0, 0);
        side.ticks(6);
        side.sent("nothing was said", "35=0|34=8|");
        Side other = withReports();
        other.ticks(4);
        other.deliver(Side.RESEND, 7, 2, 2, 0);
        other.ticks(6);
        other.sent("a report was sent again");
        other.ticks(4);
        other.sent("ten after it", "35=0|34=8|");
        Side third = withReports();
        third.ticks(4);
        third.deliver(Side.RESEND, 7, 3, 3, 0);
        third.ticks(9);
        third.sent("a FILL was sent");
        third.ticks(1);
        third.sent("ten after it", "35=0|34=8|");
    }

    /** Every b and e from 0 to three behind NEXT - 1: 1, 3, 4 and 7 are no reports, 2, 5 and 6 are. */
    private static void everyRange() {
        String[] reports = {"", "", FIRST, "", "", SECOND, THIRD, ""};
        for (int b = 0; b <= 10; b++) {
            for (int e = 0; e <= 10; e++) {
                List<String> due = new ArrayList<>();
                int last = e == 0 || e > 7 ? 7 : e;
                int gap = 0;
                for (int number = Math.max(b, 1); number <= last; number++) {
                    boolean report = !reports[number].isEmpty();
                    gap = report || gap > 0 ? gap : number;
                    boolean gapEnds = gap > 0 && (report || number == last);
                    if (gapEnds) {
                        due.add("35=4|34=" + gap + "|43=Y|36=" + (report ? number : number + 1) + "|123=Y|");
                        gap = 0;
                    }
                    if (report) {
                        due.add(reports[number]);
                    }
                }
                answer(b, e, due.toArray(new String[0]));
            }
        }
    }

    /** NEXT - 1 is 1, and that is the LOGON. */
    private static void oneMessage() {
        String fill = "35=4|34=1|43=Y|36=2|123=Y|";
        for (int e : new int[] {0, 1, 2, 999999}) {
            for (int b : new int[] {0, 1}) {
                Side side = Side.loggedOn();
                side.deliver(Side.RESEND, 2, b, e, 0);
                side.sent("RESEND " + b + " " + e, fill);
            }
            for (int b : new int[] {2, 3, 999999}) {
                Side side = Side.loggedOn();
                side.deliver(Side.RESEND, 2, b, e, 0);
                side.sent("RESEND " + b + " " + e);
            }
        }
    }

    /** Nothing gets a new number; and what is sent again can be sent again once more. */
    private static void changesNothing() {
        Side side = withReports();
        for (int number = 7; number <= 10; number++) {
            Check.same("RESEND", side.deliver(Side.RESEND, number, 2, 3, 0), TradeLink.DONE);
            side.sent("RESEND " + number, FIRST, "35=4|34=3|43=Y|36=4|123=Y|");
            Check.same("NEXT", side.on().session(1), 8);
        }
        side.order("the order", 7, 1, 10, 4, 1);
        Check.same("messages of orders", side.on().session(6), 2);
    }
}
