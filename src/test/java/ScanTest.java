/** Promise 5, take: which frames are garbled. */
public final class ScanTest {
    public static void main(String[] args) {
        rightFrames();
        wrongBodies();
        wrongHeads();
        wrongEnds();
        everySpoiltByte();
        changesThatKeepTheSum();
        everyShorterFrame();
        nothingHappens();
        nothingIsLeftOfTheLastFrame();
        Check.end();
    }

    private static void rightFrames() {
        right("HEARTBEAT", "35=0|34=2|");
        right("HEARTBEAT with 112", "35=0|34=2|112=5|");
        right("HEARTBEAT with 112 of 0", "35=0|34=2|112=0|");
        right("a duplicate", "35=0|34=2|43=Y|");
        right("a duplicate with 112", "35=0|34=2|43=Y|112=1|");
        right("leading zeros", "35=1|34=000002|112=000000|");
        right("all fields of a NEW with leading zeros", "35=D|34=02|11=07|54=01|38=010|");
        right("LOGOUT", "35=5|34=2|");
        Side side = Side.loggedOn();
        Check.same("leading zeros", side.deliverBody("35=D|34=02|11=0007|54=01|38=000010|"), TradeLink.DONE);
        side.sent("and none in what is sent", "35=8|34=2|11=7|39=0|14=0|151=10|");
        side.order("the order", 7, 1, 10, 0, 0);
        Side other = new Side();
        Check.same("a LOGON with leading zeros", other.deliverBody("35=A|34=0001|108=0030|"), TradeLink.DONE);
        other.sent("its answer", "35=A|34=1|108=30|");
    }

    private static void wrongBodies() {
        String[] bodies = {
            "", "35=0|", "34=2|35=0|", "34=2|", "35=|34=2|", "35=00|34=2|", "35=0|34=|", "35=0|34=x|",
            "35=0|34=-2|", "35=0|34=+2|", "35=0|34= 2|", "35=0|34=2 |", "35=0|34=2.|", "35=0|34=0000002|",
            "35=0|34=1000000|", "035=0|34=2|", "35=0|034=2|", "35==0|34=2|", "35=0|34==2|", "35=0||34=2|",
            "35=0|34=2|43=N|", "35=0|34=2|43=y|", "35=0|34=2|43=|", "35=0|34=2|43=YY|", "35=0|43=Y|34=2|",
            "35=0|34=2|43=Y|43=Y|", "35=0|34=2|112=5|43=Y|", "35=0|34=2|112=|", "35=0|34=2|112=x|",
            "35=0|34=2|112=1234567|", "35=0|34=2|112=1|112=1|", "35=0|34=2|7=1|", "35=0|34=2|0112=1|",
            "35=0|34=2|58=hello|", "35=1|34=2|", "35=1|34=2|112=|", "35=1|34=2|111=1|", "35=1|34=2|12=1|",
            "35=1|34=2|112|", "35=1|34=2|112:1|", "35=1|342|112=1|", "350|34=2|",
            "35=2|34=2|7=1|", "35=2|34=2|16=0|7=1|", "35=2|34=2|16=0|", "35=2|34=2|7=1|16=|",
            "35=4|34=2|36=5|", "35=4|34=2|123=Y|", "35=4|34=2|36=5|123=X|", "35=4|34=2|36=5|123=|",
            "35=4|34=2|36=5|123=YN|", "35=4|34=2|36=5|123=1|", "35=4|34=2|36=5|123=y|", "35=4|34=2|123=Y|36=5|",
            "35=5|34=2|112=1|", "35=5|34=2|58=x|", "35=A|34=2|", "35=A|34=2|108=|", "35=A|34=2|108=x|",
            "35=D|34=2|11=7|54=1|", "35=D|34=2|11=7|38=1|54=1|", "35=D|34=2|11=7|54=1|38=1|38=1|",
            "35=D|34=2|54=1|38=1|", "35=D|34=2|11=7|54=B|38=1|", "35=F|34=2|11=7|", "35=F|34=2|41=1|11=7|",
            "35=F|34=2|11=7|41=1|38=1|", "35=G|34=2|11=7|41=1|", "35=G|34=2|11=7|38=1|41=1|",
            "35=8|34=2|11=7|39=0|14=0|151=1|", "35=8|34=2|", "35=3|34=2|", "35=6|34=2|", "35=B|34=2|",
            "35=E|34=2|", "35=a|34=2|108=1|", "35=d|34=2|11=7|54=1|38=1|", "35=H|34=2|", "35=~|34=2|",
            "35=0|34=2|10=000|", "8=F|35=0|34=2|", "35=0|34=2", "35=0|34=2|112=5",
        };
        for (String body : bodies) {
            garbled(body, Side.frame(body));
        }
        for (char type = 33; type < 127; type++) {
            if ("01245ADFG".indexOf(type) < 0) {
                garbled("type " + type, Side.frame("35=" + type + "|34=2|"));
            }
        }
    }

    private static void wrongHeads() {
        String body = "35=0|34=2|";
        garbled("no 8", closed("9=10|" + body));
        garbled("8 is G", closed("8=G|9=10|" + body));
        garbled("8 is FF", closed("8=FF|9=10|" + body));
        garbled("8 is f", closed("8=f|9=10|" + body));
        garbled("8 is empty", closed("8=|9=10|" + body));
        garbled("08", closed("08=F|9=10|" + body));
        garbled("no 9", closed("8=F|" + body));
        garbled("9 before 8", closed("9=10|8=F|" + body));
        garbled("9 too small", closed("8=F|9=9|" + body));
        garbled("9 too great", closed("8=F|9=11|" + body));
        garbled("9 empty", closed("8=F|9=|" + body));
        garbled("9 no number", closed("8=F|9=1o|" + body));
        garbled("9 of seven digits", closed("8=F|9=0000010|" + body));
        garbled("9 counts the end", closed("8=F|9=17|" + body));
        garbled("a byte before", closed("|8=F|9=10|" + body));
        Side side = Side.loggedOn();
        Check.same("9 of six digits", side.deliverBytes(closed("8=F|9=000010|" + body)), TradeLink.DONE);
    }

    private static void wrongEnds() {
        String open = "8=F|9=17|35=0|34=2|112=99|";
        Check.same("the sum of the sample", Side.sum(open), "140");
        Check.same("the sample", Side.loggedOn().deliverBytes(open + "10=140|"), TradeLink.DONE);
        garbled("no 10", open);
        garbled("another sum", open + "10=141|");
        garbled("the sum and 256", open + "10=396|");
        garbled("four digits", open + "10=0140|");
        garbled("no digits", open + "10=|");
        garbled("no digit at the end", open + "10=14o|");
        garbled("010", open + "010=140|");
        garbled("no last byte", open + "10=140");
        garbled("a byte more", open + "10=140||");
        garbled("a field more", open + "10=140|58=x|");
        garbled("10 twice", open + "10=140|10=140|");
        garbled("the frame twice", open + "10=140|" + open + "10=140|");
        lowSums();
    }

    private static void lowSums() {
        String zero = "8=F|9=20|35=F|34=2|11=4|41=1|";
        Check.same("a sum of 0", Side.loggedOn().deliverBytes(zero + "10=000|"), TradeLink.DONE);
        garbled("a sum of 256", zero + "10=256|");
        String eight = "8=F|9=25|35=0|34=2|43=Y|112=10000|";
        Check.same("a sum of 8", Side.loggedOn().deliverBytes(eight + "10=008|"), TradeLink.DONE);
        garbled("one digit", eight + "10=8|");
        garbled("two digits", eight + "10=08|");
        garbled("four digits", eight + "10=0008|");
    }

    /** One changed byte is seen by the sum, whichever it is and however it is changed. */
    private static void everySpoiltByte() {
        for (int i = 0; i < 42; i++) {
            for (int x = 1; x < 128; x++) {
                Side side = Side.loggedOn();
                Check.same("the length", side.on().give(Side.NEW, 2, false, 7, 1, 10), 42);
                side.on().spoil(i, x);
                Check.same("byte " + i + " changed by " + x, side.on().take(), TradeLink.GARBLED);
            }
        }
    }

    private static void changesThatKeepTheSum() {
        Side side = Side.loggedOn();
        side.on().give(Side.NEW, 2, false, 7, 1, 10);
        Check.same("38 is 00", side.on().spoil(32, 1), '0');
        Check.same("11 is 6", side.on().spoil(22, 1), '6');
        side.on().spoil(32, 1);
        Check.same("54 is 2", side.on().spoil(27, 3), '2');
        Check.same("two changes that make up for each other", side.on().take(), TradeLink.DONE);
        side.order("the order", 6, 2, 10, 0, 0);

        Side other = Side.loggedOn();
        other.on().give(Side.NEW, 2, false, 7, 1, 10);
        Check.same("a tag is 12", other.on().spoil(20, 3), '2');
        Check.same("11 is 6", other.on().spoil(22, 1), '6');
        Check.same("a wrong tag with the right sum", other.on().take(), TradeLink.GARBLED);
    }

    private static void everyShorterFrame() {
        String whole = Side.frame("35=0|34=2|112=5|");
        for (int size = 1; size < whole.length(); size++) {
            garbled("the first " + size + " bytes", whole.substring(0, size));
        }
    }

    private static void nothingHappens() {
        Side side = Side.loggedOn();
        side.ticks(11);
        Check.same("garbled", side.deliverBytes("8=F|"), TradeLink.GARBLED);
        side.sent("a garbled frame");
        side.state("a garbled frame", 2, 3, 0, true);
        Check.throwing("it is taken", IllegalStateException.class, () -> side.on().take());
        side.ticks(1);
        side.sent("it was not heard", "35=1|34=3|112=12|");
    }

    /** What a frame does not say is not taken from the one before it. */
    private static void nothingIsLeftOfTheLastFrame() {
        for (String body : new String[] {"", "112=5|", "35=8|", "35=8|112=5|", "35=0|", "34=3|", "35=0|112=5|"}) {
            Side side = Side.loggedOn();
            side.deliver(Side.HEARTBEAT, 2, 5, 0, 0);
            Check.same("behind a HEARTBEAT: " + body, side.deliverBody(body), TradeLink.GARBLED);
        }
        String whole = Side.frame("35=0|34=3|112=99|");
        for (int size = 1; size < whole.length(); size++) {
            Side side = Side.loggedOn();
            side.on().give(Side.HEARTBEAT, 3, false, 99, 0, 0);
            side.on().take();
            Check.same("the first " + size + " bytes once more", side.deliverBytes(whole.substring(0, size)),
                TradeLink.GARBLED);
        }
    }

    private static String closed(String open) {
        return open + "10=" + Side.sum(open) + "|";
    }

    private static void right(String what, String body) {
        Check.same(what, Side.loggedOn().deliverBody(body), TradeLink.DONE);
    }

    private static void garbled(String what, String text) {
        Side side = Side.loggedOn();
        Check.same(what, side.deliverBytes(text), TradeLink.GARBLED);
        Check.same(what + ": AWAITED", side.on().session(0), 2);
    }
}
