/** Promise 2: give. */
public final class GiveTest {
    public static void main(String[] args) {
        lengths();
        lowestAndHighestNumbers();
        everyTypeIsRight();
        theFrameIsReplaced();
        wrongArguments();
        Check.end();
    }

    private static void lengths() {
        length("HEARTBEAT without 112", '0', 2, false, 0, 0, 0, "35=0|34=2|");
        length("HEARTBEAT", '0', 2, false, 12, 0, 0, "35=0|34=2|112=12|");
        length("TEST of 0", '1', 2, false, 0, 0, 0, "35=1|34=2|112=0|");
        length("RESEND", '2', 10, false, 1, 999999, 0, "35=2|34=10|7=1|16=999999|");
        length("RESET, no FILL", '4', 1, false, 9, 0, 0, "35=4|34=1|36=9|123=N|");
        length("FILL", '4', 1, true, 100000, 999999, 0, "35=4|34=1|43=Y|36=100000|123=Y|");
        length("LOGOUT", '5', 0, false, 5, 5, 5, "35=5|34=0|");
        length("LOGON", 'A', 999999, false, 30, 0, 0, "35=A|34=999999|108=30|");
        length("NEW", 'D', 1, false, 1, 1, 10, "35=D|34=1|11=1|54=1|38=10|");
        length("NEW, the longest", 'D', 999999, true, 999999, 999999, 999999,
            "35=D|34=999999|43=Y|11=999999|54=999999|38=999999|");
        length("CANCEL", 'F', 4, false, 9, 8, 77, "35=F|34=4|11=9|41=8|");
        length("CHANGE", 'G', 3, false, 8, 7, 50, "35=G|34=3|11=8|41=7|38=50|");
    }

    private static void lowestAndHighestNumbers() {
        int[] values = {0, 1, 9, 10, 99999, 100000, 999999};
        for (int number : values) {
            for (int a : values) {
                for (int b : new int[] {0, 1, 2, 999999}) {
                    for (int c : new int[] {0, 1, 999999}) {
                        everyType(number, a, b, c, false);
                        everyType(number, a, b, c, true);
                    }
                }
            }
        }
    }

    private static void everyType(int number, int a, int b, int c, boolean duplicate) {
        String head = "|34=" + number + "|" + (duplicate ? "43=Y|" : "");
        String what = number + " " + duplicate + " " + a + " " + b + " " + c;
        length(what, '0', number, duplicate, a, b, c, "35=0" + head + (a == 0 ? "" : "112=" + a + "|"));
        length(what, '1', number, duplicate, a, b, c, "35=1" + head + "112=" + a + "|");
        length(what, '2', number, duplicate, a, b, c, "35=2" + head + "7=" + a + "|16=" + b + "|");
        length(what, '4', number, duplicate, a, b, c, "35=4" + head + "36=" + a + "|123=" + (b == 0 ? "N|" : "Y|"));
        length(what, '5', number, duplicate, a, b, c, "35=5" + head);
        length(what, 'A', number, duplicate, a, b, c, "35=A" + head + "108=" + a + "|");
        length(what, 'D', number, duplicate, a, b, c, "35=D" + head + "11=" + a + "|54=" + b + "|38=" + c + "|");
        length(what, 'F', number, duplicate, a, b, c, "35=F" + head + "11=" + a + "|41=" + b + "|");
        length(what, 'G', number, duplicate, a, b, c, "35=G" + head + "11=" + a + "|41=" + b + "|38=" + c + "|");
    }

    /** Flips each byte to the one that is due: only a frame of just these bytes answers so. */
    private static void length(String what, int type, int number, boolean duplicate, int a, int b, int c, String body) {
        Side side = new Side();
        String text = Side.frame(body).replace('|', (char) 1);
        Check.same(what, side.on().give(type, number, duplicate, a, b, c), text.length());
        for (int i = 0; i < text.length(); i++) {
            Check.same(what + ": byte " + i, side.on().spoil(i, 127), text.charAt(i) ^ 127);
        }
        Check.same(what + " sends nothing", side.on().frames(), 0);
    }

    private static void everyTypeIsRight() {
        Side side = Side.loggedOn();
        Check.same("LOGON", side.deliver(Side.LOGON, 2, 1, 0, 0), TradeLink.DONE);
        Check.same("HEARTBEAT", side.deliver(Side.HEARTBEAT, 3, 0, 0, 0), TradeLink.DONE);
        Check.same("TEST", side.deliver(Side.TEST, 4, 0, 0, 0), TradeLink.DONE);
        Check.same("RESEND", side.deliver(Side.RESEND, 5, 1, 1, 0), TradeLink.DONE);
        Check.same("FILL", side.deliver(Side.RESET, 6, 7, 1, 0), TradeLink.DONE);
        Check.same("NEW", side.deliver(Side.NEW, 7, 1, 1, 1), TradeLink.DONE);
        Check.same("CHANGE", side.deliver(Side.CHANGE, 8, 2, 1, 2), TradeLink.DONE);
        Check.same("CANCEL", side.deliver(Side.CANCEL, 9, 3, 2, 0), TradeLink.DONE);
        Check.same("RESET", side.deliver(Side.RESET, 0, 11, 0, 0), TradeLink.DONE);
        Check.same("LOGOUT", side.deliverDuplicate(Side.LOGOUT, 11, 0, 0, 0), TradeLink.DONE);
    }

    private static void theFrameIsReplaced() {
        Side side = new Side();
        side.addBytes("8=F|");
        side.on().give(Side.LOGOUT, 1, false, 0, 0, 0);
        Check.same("a frame in the place of another", side.on().give(Side.LOGON, 1, false, 30, 0, 0), 33);
        Check.same("the latter is taken", side.on().take(), TradeLink.DONE);
    }

    private static void wrongArguments() {
        for (int type = -1; type <= 130; type++) {
            if (type < 0 || "01245ADFG".indexOf(type) < 0) {
                refused("type " + type, type, 1, 0, 0, 0);
            }
        }
        refused("type A and a turn more", 'A' + 65536, 1, 0, 0, 0);
        refused("type A and a byte more", 'A' + 256, 1, 0, 0, 0);
        refused("number -1", 'A', -1, 0, 0, 0);
        refused("number 1000000", 'A', 1000000, 0, 0, 0);
        refused("a -1", 'D', 1, -1, 1, 1);
        refused("a 1000000", 'D', 1, 1000000, 1, 1);
        refused("b -1", 'D', 1, 1, -1, 1);
        refused("b 1000000", '4', 1, 1, 1000000, 1);
        refused("c -1", '5', 1, 1, 1, -1);
        refused("c 1000000", '5', 1, 1, 1, 1000000);
        refused("a lowest", '5', 1, Integer.MIN_VALUE, 1, 1);
    }

    private static void refused(String what, int type, int number, int a, int b, int c) {
        Side side = new Side();
        side.on().give(Side.LOGON, 2, false, 30, 0, 0);
        Check.throwing(what, IllegalArgumentException.class, () -> side.on().give(type, number, false, a, b, c));
        Check.same(what + " leaves the frame", side.on().take(), TradeLink.EARLY);
        Check.throwing(what, IllegalArgumentException.class, () -> side.on().give(type, number, true, a, b, c));
        Check.same(what + " leaves what was sent", side.on().frames(), 2);
        Check.throwing(what + " makes no frame", IllegalStateException.class, () -> side.on().take());
    }
}
