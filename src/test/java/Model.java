import java.util.ArrayList;
import java.util.HashSet;
import java.util.LinkedHashMap;
import java.util.List;
import java.util.Map;
import java.util.NoSuchElementException;
import java.util.Set;
import java.util.TreeMap;
import java.util.regex.Matcher;
import java.util.regex.Pattern;

/** The document once more, over texts, patterns and maps: the program is compared with it. */
final class Model {
    private static final String N = "=(\\d{1,6})\\|";
    private static final Pattern FRAME =
        Pattern.compile("8=F\\|9" + N + "(35=(.)\\|34" + N + "(43=Y\\|)?(.*))10=(\\d\\d\\d)\\|");
    private static final Map<Character, Pattern> FIELDS = Map.of(
        '0', Pattern.compile("(?:112" + N + ")?"),
        '1', Pattern.compile("112" + N),
        '2', Pattern.compile("7" + N + "16" + N),
        '4', Pattern.compile("36" + N + "123=([YN])\\|"),
        '5', Pattern.compile(""),
        'A', Pattern.compile("108" + N),
        'D', Pattern.compile("11" + N + "54" + N + "38" + N),
        'F', Pattern.compile("11" + N + "41" + N),
        'G', Pattern.compile("11" + N + "41" + N + "38" + N));

    private static final class Deal {
        int side;
        int quantity;
        int filled;
        boolean cancelled;

        boolean open() {
            return !cancelled && filled != quantity;
        }

        int state() {
            return cancelled ? 4 : filled == quantity ? 2 : filled == 0 ? 0 : 1;
        }
    }

    private String frame = "";
    private List<String> sent = new ArrayList<>();
    private final TreeMap<Integer, String> reports = new TreeMap<>();
    private final Map<Integer, Deal> deals = new LinkedHashMap<>();
    private final Set<Integer> used = new HashSet<>();
    private int awaited = 1;
    private int next = 1;
    private int missing = 0;
    private boolean in = false;
    private int time = 0;
    private int heard = 0;
    private int said = 0;
    private int asked = 0;
    private int messages = 0;

    int give(int type, int number, boolean duplicate, int a, int b, int c) {
        boolean right = "01245ADFG".indexOf(type) >= 0;
        for (int value : new int[] {number, a, b, c}) {
            right = right && value >= 0 && value < 1000000;
        }
        if (!right) {
            throw new IllegalArgumentException();
        }
        String fields = switch ((char) type) {
            case '0' -> a == 0 ? "" : "112=" + a + "|";
            case '1' -> "112=" + a + "|";
            case '2' -> "7=" + a + "|16=" + b + "|";
            case '4' -> "36=" + a + "|123=" + (b > 0 ? "Y|" : "N|");
            case 'A' -> "108=" + a + "|";
            case 'D' -> "11=" + a + "|54=" + b + "|38=" + c + "|";
            case 'F' -> "11=" + a + "|41=" + b + "|";
            case 'G' -> "11=" + a + "|41=" + b + "|38=" + c + "|";
            default -> "";
        };
        sent = new ArrayList<>();
        frame = whole("35=" + (char) type + "|34=" + number + "|" + (duplicate ? "43=Y|" : "") + fields);
        return frame.length();
    }

    int spoil(int i, int x) {
        if (i < 0 || i >= frame.length()) {
            throw new IndexOutOfBoundsException();
        }
        if (x < 1 || x > 127) {
            throw new IllegalArgumentException();
        }
        sent = new ArrayList<>();
        int octet = octetOf(frame.charAt(i)) ^ x;
        frame = frame.substring(0, i) + charOf(octet) + frame.substring(i + 1);
        return octet;
    }

    int add(int octet) {
        if (octet < 0 || octet > 127) {
            throw new IllegalArgumentException();
        }
        if (frame.length() == 120) {
            throw new IllegalStateException();
        }
        sent = new ArrayList<>();
        frame += charOf(octet);
        return frame.length();
    }

    int take() {
        if (frame.isEmpty()) {
            throw new IllegalStateException();
        }
        sent = new ArrayList<>();
        String text = frame;
        frame = "";
        Matcher head = FRAME.matcher(text);
        if (!head.matches() || !FIELDS.containsKey(head.group(3).charAt(0))) {
            return TradeLink.GARBLED;
        }
        char type = head.group(3).charAt(0);
        Matcher fields = FIELDS.get(type).matcher(head.group(6));
        String before = text.substring(0, head.end(2));
        if (!fields.matches() || Integer.parseInt(head.group(1)) != head.group(2).length()
            || Integer.parseInt(head.group(7)) != sum(before)) {
            return TradeLink.GARBLED;
        }
        int[] v = new int[3];
        for (int i = 0; i < fields.groupCount(); i++) {
            String value = fields.group(i + 1);
            v[i] = value == null || value.equals("N") ? 0 : value.equals("Y") ? 1 : Integer.parseInt(value);
        }
        int answer = taken(type, Integer.parseInt(head.group(4)), head.group(5) != null, v);
        if (!in || awaited > missing) {
            missing = 0;
        }
        return answer;
    }

    private int taken(char type, int number, boolean duplicate, int[] v) {
        if (!in && type != 'A') {
            return TradeLink.IGNORED;
        }
        if (in) {
            heard = time;
        }
        if (type == '4' && v[1] == 0) {
            if (v[0] > awaited) {
                awaited = v[0];
                return TradeLink.DONE;
            }
            return TradeLink.IGNORED;
        }
        if (number < awaited) {
            if (duplicate) {
                return TradeLink.IGNORED;
            }
            if (in) {
                end();
            }
            return TradeLink.LOW;
        }
        if (!in) {
            in = true;
            heard = time;
            missing = 0;
            send("A", "108=" + v[0] + "|");
        }
        if (number > awaited) {
            if (type == '2') {
                answer(v[0], v[1]);
            }
            if (type == '5') {
                end();
            }
            if (in) {
                if (missing == 0) {
                    ask();
                }
                missing = number > missing ? number : missing;
            }
            return TradeLink.EARLY;
        }
        awaited++;
        switch (type) {
            case '1' -> send("0", "112=" + v[0] + "|");
            case '2' -> answer(v[0], v[1]);
            case '4' -> awaited = v[0] > awaited ? v[0] : awaited;
            case '5' -> end();
            case 'D', 'F', 'G' -> order(type, v);
            default -> { }
        }
        return TradeLink.DONE;
    }

    private void order(char type, int[] v) {
        messages++;
        boolean fresh = v[0] != 0 && !used.contains(v[0]);
        if (type == 'D') {
            if (!fresh || v[1] != 1 && v[1] != 2 || v[2] == 0 || deals.size() == 40) {
                report(v[0], '8', 0, 0);
                return;
            }
            Deal deal = new Deal();
            deal.side = v[1];
            deal.quantity = v[2];
            deals.put(v[0], deal);
            used.add(v[0]);
            report(v[0], '0', 0, v[2]);
            return;
        }
        Deal deal = deals.get(v[1]);
        if (!fresh || deal == null || !deal.open() || type == 'G' && v[2] <= deal.filled) {
            report(v[0], '8', 0, 0);
            return;
        }
        used.add(v[0]);
        deals.remove(v[1]);
        deals.put(v[0], deal);
        if (type == 'F') {
            deal.cancelled = true;
            report(v[0], '4', deal.filled, 0);
        } else {
            deal.quantity = v[2];
            report(v[0], deal.filled > 0 ? '1' : '0', deal.filled, v[2] - deal.filled);
        }
    }

    private void answer(int b, int e) {
        int last = e == 0 ? next - 1 : Math.min(e, next - 1);
        int n = b == 0 ? 1 : b;
        while (n <= last) {
            if (reports.containsKey(n)) {
                again("35=8|34=" + n + "|43=Y|" + reports.get(n));
                n++;
            } else {
                int first = n;
                while (n <= last && !reports.containsKey(n)) {
                    n++;
                }
                again("35=4|34=" + first + "|43=Y|36=" + n + "|123=Y|");
            }
        }
    }

    private void again(String body) {
        sent.add(whole(body));
        said = time;
    }

    private void report(int id, char state, int filled, int left) {
        String text = "11=" + id + "|39=" + state + "|14=" + filled + "|151=" + left + "|";
        reports.put(next, text);
        send("8", text);
    }

    private void send(String type, String fields) {
        if (in) {
            sent.add(whole("35=" + type + "|34=" + next + "|" + fields));
            said = time;
        }
        next++;
    }

    private void ask() {
        send("2", "7=" + awaited + "|16=0|");
        asked = time;
    }

    private void end() {
        send("5", "");
        in = false;
    }

    int tick() {
        sent = new ArrayList<>();
        time++;
        if (in && time >= heard + 24) {
            end();
            missing = 0;
        } else if (in) {
            if (time == heard + 12) {
                send("1", "112=" + time + "|");
            }
            if (missing != 0 && time >= asked + 8) {
                ask();
            }
            if (time >= said + 10) {
                send("0", "");
            }
        }
        return time;
    }

    boolean restart() {
        sent = new ArrayList<>();
        boolean was = in;
        in = false;
        missing = 0;
        return was;
    }

    int fill(int id, int quantity) {
        Deal deal = deals.get(id);
        if (deal == null || !deal.open()) {
            throw new NoSuchElementException();
        }
        if (quantity < 1 || quantity > deal.quantity - deal.filled) {
            throw new IllegalArgumentException();
        }
        sent = new ArrayList<>();
        deal.filled += quantity;
        report(id, (char) ('0' + deal.state()), deal.filled, deal.quantity - deal.filled);
        return deal.filled;
    }

    int frames() {
        return sent.size();
    }

    int length(int k) {
        if (k < 0 || k > 19 || k >= sent.size()) {
            throw new IndexOutOfBoundsException();
        }
        return sent.get(k).length();
    }

    int octet(int k, int i) {
        if (i < 0 || i >= length(k)) {
            throw new IndexOutOfBoundsException();
        }
        return octetOf(sent.get(k).charAt(i));
    }

    int session(int what) {
        if (what < 0 || what > 6) {
            throw new IndexOutOfBoundsException();
        }
        return new int[] {awaited, next, missing, in ? 1 : 0, time, deals.size(), messages}[what];
    }

    int order(int id, int what) {
        Deal deal = deals.get(id);
        if (deal == null) {
            throw new NoSuchElementException();
        }
        if (what < 0 || what > 3) {
            throw new IndexOutOfBoundsException();
        }
        return new int[] {deal.side, deal.quantity, deal.filled, deal.state()}[what];
    }

    private static String whole(String body) {
        String before = "8=F|9=" + body.length() + "|" + body;
        return before + String.format("10=%03d|", sum(before));
    }

    private static int sum(String text) {
        int sum = 0;
        for (char c : text.toCharArray()) {
            sum += octetOf(c);
        }
        return sum % 256;
    }

    /** Byte 1 and the | change places in the model's texts, so that no byte is lost. */
    private static int octetOf(char c) {
        return c == '|' ? 1 : c == 1 ? '|' : c;
    }

    private static char charOf(int octet) {
        return octet == 1 ? '|' : octet == '|' ? (char) 1 : (char) octet;
    }
}
