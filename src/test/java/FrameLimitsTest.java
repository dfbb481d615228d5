import java.util.Random;
import java.util.TreeSet;

/** Terms, "a FRAME is": how many digits, which bytes, how long, which sum; each for every type and field. */
public final class FrameLimitsTest {
    /** A right body of each type, for a side that awaits number 2; a # stands before each number. */
    private static final String[] BODIES = {
        "35=0|34=#2|", "35=0|34=#2|112=#5|", "35=1|34=#2|112=#5|", "35=2|34=#2|7=#1|16=#1|", "35=4|34=#2|36=#3|123=Y|",
        "35=4|34=#2|36=#3|123=N|", "35=5|34=#2|", "35=A|34=#2|108=#5|", "35=D|34=#2|11=#7|54=#1|38=#5|",
        "35=F|34=#2|11=#7|41=#5|", "35=G|34=#2|11=#7|41=#5|38=#5|", "35=0|34=#2|43=Y|", "35=4|34=#2|43=Y|36=#3|123=Y|",
        "35=D|34=#2|43=Y|11=#7|54=#1|38=#5|"
    };

    public static void main(String[] args) {
        for (String body : BODIES) {
            digits(body);
            wrongDigits(body);
            fieldsInTheirOrder(body);
            countedBytes(body);
            bytesBehind(body);
        }
        highestNumbers();
        digitsOfTheLength();
        types();
        characters();
        tags();
        sumsOfThePeer();
        sumsOfThisSide();
        numbersOfThisSide();
        Check.end();
    }

    private static String plain(String body) {
        return body.replace("#", "");
    }

    private static void digits(String body) {
        right(plain(body), Side.frame(plain(body)));
        for (int at = body.indexOf('#'); at >= 0; at = body.indexOf('#', at + 1)) {
            String before = plain(body.substring(0, at));
            String digit = body.substring(at + 1, at + 2);
            String behind = plain(body.substring(at + 2));
            garbled("no digit", before + behind);
            right("6 digits", Side.frame(before + "00000" + digit + behind));
            right("5 digits", Side.frame(before + "0000" + digit + behind));
            garbled("7 digits", before + "000000" + digit + behind);
            garbled("8 digits", before + "0000000" + digit + behind);
            garbled("7 digits, a great number", before + "1000000" + behind);
            garbled("10 digits that go round to the number", before + (4294967296L + Long.parseLong(digit)) + behind);
        }
    }

    private static void wrongDigits(String body) {
        for (int at = body.indexOf('#'); at >= 0; at = body.indexOf('#', at + 1)) {
            String before = plain(body.substring(0, at));
            String digit = body.substring(at + 1, at + 2);
            String behind = plain(body.substring(at + 2));
            for (char octet = 0; octet < 128; octet++) {
                if (octet < '0' || octet > '9') {
                    garbled("byte " + (int) octet + " for a digit", before + octet + behind);
                    garbled("byte " + (int) octet + " before a digit", before + octet + digit + behind);
                    // A | behind the digit would end the field: the next field is empty then.
                    garbled("byte " + (int) octet + " behind a digit", before + digit + octet + behind);
                }
            }
        }
    }

    /** Each field left out, sent twice, changed with the next one, or followed by an unknown one. */
    private static void fieldsInTheirOrder(String body) {
        String[] fields = plain(body).split("(?<=\\|)");
        for (int i = 0; i < fields.length; i++) {
            boolean free = fields[i].startsWith("43=") || fields[i].startsWith("112=") && body.startsWith("35=0");
            String[] copy = fields.clone();
            copy[i] = "";
            if (free) {
                right("without " + fields[i], Side.frame(String.join("", copy)));
            } else {
                garbled("without " + fields[i], String.join("", copy));
            }
            copy[i] = fields[i] + fields[i];
            garbled("twice " + fields[i], String.join("", copy));
            copy[i] = fields[i] + "58=x|";
            garbled("a field behind " + fields[i], String.join("", copy));
            copy[i] = fields[i] + "|";
            garbled("a byte 1 behind " + fields[i], String.join("", copy));
            copy[i] = "0" + fields[i];
            garbled("a leading zero in the tag of " + fields[i], String.join("", copy));
            copy[i] = fields[i].replace("=", "");
            garbled("no = in " + fields[i], String.join("", copy));
            copy[i] = fields[i].replaceAll("=.*", "=|");
            garbled("no value in " + fields[i], String.join("", copy));
            copy[i] = fields[i].substring(0, fields[i].length() - 1);
            garbled("no byte 1 in " + fields[i], String.join("", copy));
            if (i + 1 < fields.length) {
                copy[i] = fields[i + 1];
                copy[i + 1] = fields[i];
                garbled("the fields changed at " + fields[i], String.join("", copy));
            }
        }
    }

    /** Field 9 counts from behind itself up to before field 10; here the sum is right in each case. */
    private static void countedBytes(String body) {
        String text = plain(body);
        for (int wrong = 0; wrong <= 127; wrong++) {
            if (wrong != text.length()) {
                garbledBytes("9 is " + wrong + " for " + text, closed("8=F|9=" + wrong + "|" + text));
            }
        }
        garbledBytes("9 and 256 more", closed("8=F|9=" + (text.length() + 256) + "|" + text));
        garbledBytes("9 is the highest", closed("8=F|9=999999|" + text));
    }

    /** A right frame, and more behind it, up to the 120 bytes that a row can have. */
    private static void bytesBehind(String body) {
        String whole = Side.frame(plain(body));
        StringBuilder text = new StringBuilder(whole);
        while (text.length() < 120) {
            text.append(text.length() % 3 == 0 ? '|' : '0');
            garbledBytes(text.length() + " bytes", text.toString());
        }
        garbledBytes("the last byte is missing", whole.substring(0, whole.length() - 1));
    }

    private static void highestNumbers() {
        for (String zeros : new String[] {"", "0", "00000"}) {
            Side side = Side.loggedOn();
            Check.same("number 0", side.deliverBody("35=0|34=" + zeros + "0|"), TradeLink.LOW);
        }
        Side early = Side.loggedOn();
        Check.same("number 999999", early.deliverBody("35=0|34=999999|"), TradeLink.EARLY);
        Check.same("up to it", early.on().session(2), 999999);
        Side test = Side.loggedOn();
        test.deliverBody("35=1|34=2|112=999999|");
        test.sent("112 is 999999", "35=0|34=2|112=999999|");
        Side order = Side.loggedOn();
        order.deliverBody("35=D|34=2|11=999999|54=1|38=999999|");
        order.sent("11 and 38 are 999999", "35=8|34=2|11=999999|39=0|14=0|151=999999|");
        Side zero = Side.loggedOn();
        zero.deliverBody("35=1|34=2|112=000000|");
        zero.sent("112 is 0", "35=0|34=2|112=0|");
    }

    private static void digitsOfTheLength() {
        String body = "35=0|34=2|";
        garbledBytes("9 without digits", closed("8=F|9=|" + body));
        right("9 of 2 digits", closed("8=F|9=10|" + body));
        right("9 of 3 digits", closed("8=F|9=010|" + body));
        right("9 of 6 digits", closed("8=F|9=000010|" + body));
        garbledBytes("9 of 7 digits", closed("8=F|9=0000010|" + body));
        for (char octet = 0; octet < 128; octet++) {
            if (octet < '0' || octet > '9') {
                garbledBytes("byte " + (int) octet + " in 9", closed("8=F|9=1" + octet + "|" + body));
                garbledBytes("byte " + (int) octet + " before 9", closed("8=F|9=" + octet + "10|" + body));
            }
        }
    }

    /** Every byte as the type of a frame that has the fields of each type there is. */
    private static void types() {
        for (char type = 0; type < 128; type++) {
            for (String body : BODIES) {
                String text = plain(body);
                boolean own = type == text.charAt(3);
                boolean alike = own || sameFields(type, text);
                String changed = "35=" + type + text.substring(4);
                if (alike) {
                    right("type " + type, Side.frame(changed));
                } else {
                    garbled("type " + (int) type, changed);
                }
            }
        }
        garbled("a type of two characters", "35=00|34=2|");
        garbled("a REPORT", "35=8|34=2|11=7|39=0|14=0|151=1|");
        garbled("a REPORT, a duplicate", "35=8|34=2|43=Y|11=7|39=0|14=0|151=1|");
        garbled("a REPORT with the fields of a NEW", "35=8|34=2|11=7|54=1|38=5|");
    }

    /** HEARTBEAT and LOGOUT can both have no field, HEARTBEAT and TEST both have 112. */
    private static boolean sameFields(char type, String text) {
        boolean bare = text.endsWith("34=2|") || text.endsWith("43=Y|");
        boolean one = text.contains("|112=");
        return bare && (type == '0' || type == '5') || one && (type == '0' || type == '1');
    }

    private static void characters() {
        for (char octet = 0; octet < 128; octet++) {
            if (octet != 'F') {
                garbledBytes("8 is byte " + (int) octet, closed("8=" + octet + "|9=10|35=0|34=2|"));
            }
            if (octet != 'Y') {
                garbled("43 is byte " + (int) octet, "35=0|34=2|43=" + octet + "|");
            }
            if (octet != 'Y' && octet != 'N') {
                garbled("123 is byte " + (int) octet, "35=4|34=2|36=5|123=" + octet + "|");
            }
        }
        garbled("43 is YY", "35=0|34=2|43=YY|");
        garbled("123 is YY", "35=4|34=2|36=5|123=YY|");
        garbled("123 is NN", "35=4|34=2|36=5|123=NN|");
    }

    /** Every number up to 200 as the tag in the place of 112, and those that end like it. */
    private static void tags() {
        for (int tag = 0; tag <= 200; tag++) {
            if (tag != 112) {
                garbled("tag " + tag, "35=1|34=2|" + tag + "=5|");
            }
        }
        for (String tag : new String[] {"", "0112", "1112", "1120", "1012", "12", "11", "112 ", "1 12", "112=", "-112"}) {
            garbled("tag " + tag, "35=1|34=2|" + tag + "=5|");
        }
    }

    /** All sums from 0 to 255 come from the peer; each must stand with three digits, and no other sum is right. */
    private static void sumsOfThePeer() {
        TreeSet<Integer> seen = new TreeSet<>();
        Random random = new Random(1);
        while (seen.size() < 256) {
            String body = "35=D|34=2|11=" + anyNumber(random) + "|54=1|38=" + anyNumber(random) + "|";
            String open = "8=F|9=" + body.length() + "|" + body;
            int sum = Integer.parseInt(Side.sum(open));
            if (seen.add(sum)) {
                oneSumIsRight(open, sum);
            }
        }
        Check.same("the lowest sum", seen.first(), 0);
        Check.same("the highest sum", seen.last(), 255);
    }

    private static void oneSumIsRight(String open, int sum) {
        right("a sum of " + sum, open + String.format("10=%03d|", sum));
        garbledBytes("one above " + sum, open + String.format("10=%03d|", sum + 1));
        garbledBytes("one below " + sum, open + String.format("10=%03d|", (sum + 999) % 1000));
        garbledBytes("256 above " + sum, open + String.format("10=%03d|", sum + 256));
        garbledBytes("512 above " + sum, open + String.format("10=%03d|", sum + 512));
        garbledBytes("no digits", open + "10=|");
        garbledBytes("four digits of " + sum, open + String.format("10=%04d|", sum));
        if (sum < 100) {
            garbledBytes("fewer digits of " + sum, open + "10=" + sum + "|");
        }
    }

    private static void sumsOfThisSide() {
        TreeSet<String> seen = new TreeSet<>();
        Random random = new Random(2);
        while (seen.size() < 256) {
            int id = 1 + Integer.parseInt(anyNumber(random)) % 999999;
            int quantity = 1 + Integer.parseInt(anyNumber(random)) % 999999;
            String body = "35=8|34=2|11=" + id + "|39=0|14=0|151=" + quantity + "|";
            if (seen.add(Side.sum("8=F|9=" + body.length() + "|" + body))) {
                Side side = Side.loggedOn();
                side.deliver(Side.NEW, 2, id, 1, quantity);
                side.sent("a REPORT", body);
            }
        }
        Check.same("the lowest sum", seen.first(), "000");
        Check.same("the highest sum", seen.last(), "255");
    }

    /** One to six digits. */
    private static String anyNumber(Random random) {
        String digits = String.format("%06d", random.nextInt(1000000));
        return digits.substring(random.nextInt(6));
    }

    /** Without leading zeros, whatever the peer has sent, up to the highest number. */
    private static void numbersOfThisSide() {
        for (int value : new int[] {0, 1, 9, 10, 11, 99, 100, 101, 999, 1000, 9999, 10000, 99999, 100000, 999999}) {
            Side side = new Side();
            side.deliverBody(String.format("35=A|34=1|108=%06d|", value));
            side.sent("108 is " + value, "35=A|34=1|108=" + value + "|");
            side.deliverBody(String.format("35=D|34=2|11=%06d|54=1|38=%06d|", value, value));
            side.sent("11 is " + value, value == 0
                ? "35=8|34=2|11=0|39=8|14=0|151=0|" : "35=8|34=2|11=" + value + "|39=0|14=0|151=" + value + "|");
        }
    }

    private static String closed(String open) {
        return open + "10=" + Side.sum(open) + "|";
    }

    private static void right(String what, String text) {
        Check.same(what + ": " + text, Side.loggedOn().deliverBytes(text), TradeLink.DONE);
    }

    private static void garbled(String what, String body) {
        garbledBytes(what, Side.frame(body));
    }

    private static void garbledBytes(String what, String text) {
        Side side = Side.loggedOn();
        Check.same(what + ": " + text, side.deliverBytes(text), TradeLink.GARBLED);
        Check.same(what + ": frames()", side.on().frames(), 0);
        side.state(what, 2, 2, 0, true);
    }
}
