import java.util.NoSuchElementException;

/** One side of a trading session; ../shared/DOC.md says what each call promises. */
public final class TradeLink {
    public static final int GARBLED = 0;
    public static final int IGNORED = 1;
    public static final int DONE = 2;
    public static final int EARLY = 3;
    public static final int LOW = 4;

    private static final int HEARTBEAT = '0';
    private static final int TEST = '1';
    private static final int RESEND = '2';
    private static final int RESET = '4';
    private static final int LOGOUT = '5';
    private static final int LOGON = 'A';
    private static final int NEW = 'D';
    private static final int CANCEL = 'F';
    private static final int CHANGE = 'G';
    private static final int REPORT = '8';

    private static final int HIGHEST_NUMBER = 999999;
    private static final int HIGHEST_OCTET = 127;
    /** The calls that an object is used for: what a call adds at most one of needs no more room. */
    private static final int MOST_CALLS = 512;
    /** Stands where a number could be and none is: no number of a frame is below 0. */
    private static final int NONE = -1;

    private final Inbox inbox;
    private final Message message;
    private final Session link;

    public TradeLink() {
        inbox = new Inbox();
        message = new Message();
        link = new Session();
    }

    public int give(int type, int number, boolean duplicate, int a, int b, int c)
            throws IllegalArgumentException {
        if (!Layout.isPeerType(type) || !isNumber(number) || !isNumber(a) || !isNumber(b) || !isNumber(c)) {
            throw new IllegalArgumentException();
        }
        link.outbox.clear();
        message.begin(type, number, duplicate);
        message.say(type == HEARTBEAT && a == 0 ? NONE : a, b, c, 0);
        message.writeTo(inbox.row);
        return inbox.row.size;
    }

    public int spoil(int i, int x) throws IndexOutOfBoundsException, IllegalArgumentException {
        if (!inbox.row.has(i)) {
            throw new IndexOutOfBoundsException();
        }
        if (x < 1 || x > HIGHEST_OCTET) {
            throw new IllegalArgumentException();
        }
        link.outbox.clear();
        inbox.row.set(i, inbox.row.at(i) ^ x);
        return inbox.row.at(i);
    }

    public int add(int octet) throws IllegalArgumentException, IllegalStateException {
        if (octet < 0 || octet > HIGHEST_OCTET) {
            throw new IllegalArgumentException();
        }
        if (inbox.row.isFull()) {
            throw new IllegalStateException();
        }
        link.outbox.clear();
        inbox.row.append(octet);
        return inbox.row.size;
    }

    public int take() throws IllegalStateException {
        if (inbox.row.size == 0) {
            throw new IllegalStateException();
        }
        link.outbox.clear();
        boolean right = inbox.scan(message);
        inbox.row.clear();
        return right ? link.receive(message) : GARBLED;
    }

    public int tick() {
        link.outbox.clear();
        link.advance();
        return link.time;
    }

    public boolean restart() {
        link.outbox.clear();
        boolean wasIn = link.in;
        link.leave();
        return wasIn;
    }

    public int fill(int id, int quantity) throws NoSuchElementException, IllegalArgumentException {
        Order open = link.book.findOpen(id);
        if (open == null) {
            throw new NoSuchElementException();
        }
        if (quantity < 1 || quantity > open.left()) {
            throw new IllegalArgumentException();
        }
        link.outbox.clear();
        open.filled += quantity;
        link.report(id, open);
        return open.filled;
    }

    public int frames() {
        return link.outbox.count;
    }

    public int length(int k) throws IndexOutOfBoundsException {
        if (!link.outbox.keeps(k)) {
            throw new IndexOutOfBoundsException();
        }
        return link.outbox.frame(k).size;
    }

    public int octet(int k, int i) throws IndexOutOfBoundsException {
        if (!link.outbox.keeps(k)) {
            throw new IndexOutOfBoundsException();
        }
        Row frame = link.outbox.frame(k);
        if (!frame.has(i)) {
            throw new IndexOutOfBoundsException();
        }
        return frame.at(i);
    }

    public int session(int what) throws IndexOutOfBoundsException {
        switch (what) {
            case 0:
                return link.awaited;
            case 1:
                return link.next;
            case 2:
                return link.missing;
            case 3:
                return link.in ? 1 : 0;
            case 4:
                return link.time;
            case 5:
                return link.book.count;
            case 6:
                return link.orderMessages;
            default:
                throw new IndexOutOfBoundsException();
        }
    }

    public int order(int id, int what) throws NoSuchElementException, IndexOutOfBoundsException {
        Order found = link.book.find(id);
        if (found == null) {
            throw new NoSuchElementException();
        }
        switch (what) {
            case 0:
                return found.side;
            case 1:
                return found.quantity;
            case 2:
                return found.filled;
            case 3:
                return found.state();
            default:
                throw new IndexOutOfBoundsException();
        }
    }

    private static boolean isNumber(int value) {
        return value >= 0 && value <= HIGHEST_NUMBER;
    }

    /** Which fields of its own each type has, so that writing and scanning keep to one table. */
    private static final class Layout {
        static final int FILL_TAG = 123;
        static final int STATE_TAG = 39;
        static final int MOST_FIELDS = 4;
        private static final int WIDTH = 2 + MOST_FIELDS;
        /** A row a type: the type, how many fields it has, their tags. */
        private static final int[] ROWS = {
            HEARTBEAT, 1, 112, 0, 0, 0,
            TEST, 1, 112, 0, 0, 0,
            RESEND, 2, 7, 16, 0, 0,
            RESET, 2, 36, FILL_TAG, 0, 0,
            LOGOUT, 0, 0, 0, 0, 0,
            LOGON, 1, 108, 0, 0, 0,
            NEW, 3, 11, 54, 38, 0,
            CANCEL, 2, 11, 41, 0, 0,
            CHANGE, 3, 11, 41, 38, 0,
            REPORT, 4, 11, STATE_TAG, 14, 151
        };

        static boolean isPeerType(int type) {
            return type != REPORT && rowOf(type) != NONE;
        }

        static int fieldCount(int type) {
            int row = rowOf(type);
            return row == NONE ? 0 : ROWS[row + 1];
        }

        static int tag(int type, int i) {
            int row = rowOf(type);
            return row == NONE || i < 0 || i >= MOST_FIELDS ? 0 : ROWS[row + 2 + i];
        }

        private static int rowOf(int type) {
            for (int row = 0; row < ROWS.length; row += WIDTH) {
                if (ROWS[row] == type) {
                    return row;
                }
            }
            return NONE;
        }
    }

    /** The bytes of one frame. */
    private static final class Row {
        static final int SEPARATOR = 1;
        private static final int CAPACITY = 120;
        private static final int HIGHEST_UNIT = 100000;

        private final int[] octets = new int[CAPACITY];
        int size;

        void clear() {
            size = 0;
        }

        boolean isFull() {
            return size >= CAPACITY;
        }

        boolean has(int i) {
            return i >= 0 && i < size;
        }

        /** NONE outside the frame, so that a scan may look at any place. */
        int at(int i) {
            return i >= 0 && i < size ? octets[i] : NONE;
        }

        void set(int i, int octet) {
            if (has(i)) {
                octets[i] = octet;
            }
        }

        void append(int octet) {
            if (size < CAPACITY) {
                octets[size] = octet;
                size++;
            }
        }

        void appendNumber(int value) {
            boolean begun = false;
            for (int unit = HIGHEST_UNIT; unit > 0; unit /= 10) {
                int digit = value / unit % 10;
                begun = begun || digit != 0 || unit == 1;
                if (begun) {
                    append('0' + digit);
                }
            }
        }

        void appendNumberField(int tag, int value) {
            appendNumber(tag);
            append('=');
            appendNumber(value);
            append(SEPARATOR);
        }

        void appendCharacterField(int tag, int character) {
            appendNumber(tag);
            append('=');
            append(character);
            append(SEPARATOR);
        }

        void appendSumField() {
            int sum = sumBefore(size);
            appendNumber(10);
            append('=');
            append('0' + sum / 100);
            append('0' + sum / 10 % 10);
            append('0' + sum % 10);
            append(SEPARATOR);
        }

        int sumBefore(int end) {
            int sum = 0;
            for (int i = 0; i < end && i < size; i++) {
                sum += octets[i];
            }
            return sum % 256;
        }
    }

    /** What a frame says; a heartbeat without 112 has NONE as its first value. */
    private static final class Message {
        int type;
        int number;
        boolean duplicate;
        final int[] values = new int[Layout.MOST_FIELDS];

        void begin(int newType, int newNumber, boolean isDuplicate) {
            type = newType;
            number = newNumber;
            duplicate = isDuplicate;
        }

        void say(int first, int second, int third, int fourth) {
            values[0] = first;
            values[1] = second;
            values[2] = third;
            values[3] = fourth;
        }

        boolean isFill() {
            return values[1] > 0;
        }

        void writeTo(Row row) {
            row.clear();
            row.appendCharacterField(8, 'F');
            // The length is known only behind the body: a body of this class has 10 to 99 bytes,
            // so that two digits can hold its place.
            row.appendNumberField(9, 10);
            int start = row.size;
            row.appendCharacterField(35, type);
            row.appendNumberField(34, number);
            if (duplicate) {
                row.appendCharacterField(43, 'Y');
            }
            writeOwnFields(row);
            int length = row.size - start;
            row.set(start - 3, '0' + length / 10 % 10);
            row.set(start - 2, '0' + length % 10);
            row.appendSumField();
        }

        private void writeOwnFields(Row row) {
            int count = Layout.fieldCount(type);
            for (int i = 0; i < count && i < values.length; i++) {
                int tag = Layout.tag(type, i);
                if (tag == Layout.FILL_TAG) {
                    row.appendCharacterField(tag, isFill() ? 'Y' : 'N');
                } else if (tag == Layout.STATE_TAG) {
                    row.appendCharacterField(tag, values[i]);
                } else if (values[i] != NONE) {
                    row.appendNumberField(tag, values[i]);
                }
            }
        }
    }

    /** The peer's next frame (no bytes: there is none), and how it is read. */
    private static final class Inbox {
        private static final int MOST_DIGITS = 6;
        private static final int HIGHEST_TAG_UNIT = 100;

        final Row row = new Row();
        /** How far it is read. */
        private int at;

        /** Whether the frame is right; only then the message holds what it says. */
        boolean scan(Message into) {
            at = 0;
            if (!opens(8) || character() != 'F' || !opens(9)) {
                return false;
            }
            int length = number();
            int start = at;
            if (length == NONE || !scanHead(into) || !scanOwnFields(into)) {
                return false;
            }
            return at - start == length && scanSum();
        }

        private boolean scanHead(Message into) {
            if (!opens(35)) {
                return false;
            }
            int type = character();
            if (!Layout.isPeerType(type) || !opens(34)) {
                return false;
            }
            int number = number();
            boolean duplicate = opens(43);
            into.begin(type, number, duplicate);
            return number != NONE && (!duplicate || character() == 'Y');
        }

        private boolean scanOwnFields(Message into) {
            int count = Layout.fieldCount(into.type);
            for (int i = 0; i < count && i < into.values.length; i++) {
                int tag = Layout.tag(into.type, i);
                if (!opens(tag)) {
                    into.values[i] = NONE;
                    return into.type == HEARTBEAT;
                }
                into.values[i] = tag == Layout.FILL_TAG ? yesOrNo() : number();
                if (into.values[i] == NONE) {
                    return false;
                }
            }
            return true;
        }

        private boolean scanSum() {
            int sum = row.sumBefore(at);
            if (!opens(10)) {
                return false;
            }
            int start = at;
            return number() == sum && at - start == 4 && at == row.size;
        }

        /** Goes behind the tag and its =, if the field at hand has this tag. */
        private boolean opens(int tag) {
            int behind = at;
            for (int unit = HIGHEST_TAG_UNIT; unit > 0; unit /= 10) {
                if (tag >= unit) {
                    if (row.at(behind) != '0' + tag / unit % 10) {
                        return false;
                    }
                    behind++;
                }
            }
            if (row.at(behind) != '=') {
                return false;
            }
            at = behind + 1;
            return true;
        }

        private int number() {
            int value = 0;
            int digits = 0;
            while (digits < MOST_DIGITS && row.at(at) >= '0' && row.at(at) <= '9') {
                value = value * 10 + row.at(at) - '0';
                digits++;
                at++;
            }
            return digits > 0 && closes() ? value : NONE;
        }

        private int character() {
            int character = row.at(at);
            at++;
            return closes() ? character : NONE;
        }

        private int yesOrNo() {
            int character = character();
            if (character == 'Y') {
                return 1;
            }
            return character == 'N' ? 0 : NONE;
        }

        private boolean closes() {
            boolean closed = row.at(at) == Row.SEPARATOR;
            at++;
            return closed;
        }
    }

    /** What the latest call has sent; frames are written only when they are asked for. */
    private static final class Outbox {
        private static final int KEPT = 20;

        /** The one behind the kept ones takes all that is counted only. */
        private final Message[] messages = new Message[KEPT + 1];
        private final Row written = new Row();
        int count;

        Outbox() {
            for (int k = 0; k < messages.length; k++) {
                messages[k] = new Message();
            }
        }

        void clear() {
            count = 0;
        }

        Message open() {
            Message opened = messages[count < KEPT ? count : KEPT];
            count++;
            return opened;
        }

        boolean keeps(int k) {
            return k >= 0 && k < count && k < KEPT;
        }

        Row frame(int k) {
            if (keeps(k)) {
                messages[k].writeTo(written);
            }
            return written;
        }
    }

    /** The reports of this side, by rising numbers. */
    private static final class Store {
        private static final int WIDTH = 5;

        /** A row a report: its number and its four values. */
        private final int[] rows = new int[MOST_CALLS * WIDTH];
        int count;

        void keep(int number, int id, int state, int filled, int left) {
            if (count >= MOST_CALLS) {
                return;
            }
            int row = count * WIDTH;
            rows[row] = number;
            rows[row + 1] = id;
            rows[row + 2] = state;
            rows[row + 3] = filled;
            rows[row + 4] = left;
            count++;
        }

        int numberOf(int k) {
            return k >= 0 && k < count ? rows[k * WIDTH] : NONE;
        }

        void recall(int k, Message into) {
            if (k >= 0 && k < count) {
                int row = k * WIDTH;
                into.say(rows[row + 1], rows[row + 2], rows[row + 3], rows[row + 4]);
            }
        }
    }

    private static final class Order {
        int id;
        int side;
        int quantity;
        int filled;
        boolean cancelled;

        boolean isOpen() {
            return !cancelled && filled < quantity;
        }

        int left() {
            return cancelled ? 0 : quantity - filled;
        }

        int state() {
            if (cancelled) {
                return 4;
            }
            if (filled == quantity) {
                return 2;
            }
            return filled > 0 ? 1 : 0;
        }
    }

    /** All orders, and every id that an order has or had. */
    private static final class Book {
        private static final int MOST_ORDERS = 40;

        private final Order[] orders = new Order[MOST_ORDERS];
        int count;
        private final int[] usedIds = new int[MOST_CALLS];
        private int usedCount;

        Book() {
            for (int i = 0; i < orders.length; i++) {
                orders[i] = new Order();
            }
        }

        Order find(int id) {
            for (int i = 0; i < count && i < orders.length; i++) {
                if (orders[i].id == id) {
                    return orders[i];
                }
            }
            return null;
        }

        Order findOpen(int id) {
            Order found = find(id);
            return found != null && found.isOpen() ? found : null;
        }

        /** The order as the message has made it; null when the message is refused. */
        Order carryOut(Message message) {
            int id = message.values[0];
            if (id == 0 || isUsed(id)) {
                return null;
            }
            Order done = message.type == NEW
                    ? enter(message.values[1], message.values[2])
                    : amend(message.values[1], message.type == CANCEL, message.values[2]);
            if (done != null) {
                done.id = id;
                use(id);
            }
            return done;
        }

        private Order enter(int side, int quantity) {
            if (side < 1 || side > 2 || quantity == 0 || count >= MOST_ORDERS) {
                return null;
            }
            Order entered = orders[count];
            count++;
            entered.side = side;
            entered.quantity = quantity;
            return entered;
        }

        private Order amend(int id, boolean cancels, int quantity) {
            Order open = findOpen(id);
            if (open == null || !cancels && quantity <= open.filled) {
                return null;
            }
            if (cancels) {
                open.cancelled = true;
            } else {
                open.quantity = quantity;
            }
            return open;
        }

        private boolean isUsed(int id) {
            for (int i = 0; i < usedCount && i < usedIds.length; i++) {
                if (usedIds[i] == id) {
                    return true;
                }
            }
            return false;
        }

        private void use(int id) {
            if (usedCount < usedIds.length) {
                usedIds[usedCount] = id;
                usedCount++;
            }
        }
    }

    /** The numbers in both directions, what is missing, and what is sent when. */
    private static final class Session {
        private static final int SILENCE_ENDS = 24;
        private static final int SILENCE_TESTED = 12;
        private static final int ASKED_AGAIN = 8;
        private static final int SAID_AGAIN = 10;
        private static final int REFUSED = '8';

        final Outbox outbox = new Outbox();
        final Book book = new Book();
        private final Store store = new Store();
        int awaited = 1;
        int next = 1;
        /** Up to which number frames are missing, 0 for none. */
        int missing;
        boolean in;
        int time;
        int orderMessages;
        private int heard;
        private int said;
        private int asked;

        int receive(Message message) {
            if (!in && message.type != LOGON) {
                return IGNORED;
            }
            // A LOGON that is turned down sets it too: while the session is OUT, nothing looks at it.
            heard = time;
            if (message.type == RESET && !message.isFill()) {
                return raiseAwaited(message.values[0]) ? DONE : IGNORED;
            }
            if (message.number < awaited) {
                return receiveLow(message.duplicate);
            }
            if (!in) {
                in = true;
                send(LOGON, message.values[0], 0);
            }
            if (message.number > awaited) {
                return receiveEarly(message);
            }
            raiseAwaited(awaited + 1);
            receiveInTurn(message);
            return DONE;
        }

        void advance() {
            time++;
            if (!in) {
                return;
            }
            if (time - heard >= SILENCE_ENDS) {
                logOut();
                return;
            }
            if (time - heard == SILENCE_TESTED) {
                send(TEST, time, 0);
            }
            if (missing > 0 && time - asked >= ASKED_AGAIN) {
                ask();
            }
            if (time - said >= SAID_AGAIN) {
                send(HEARTBEAT, NONE, 0);
            }
        }

        void leave() {
            in = false;
            missing = 0;
        }

        /** Without an order it tells a refusal. It is numbered and stored also while nothing can be sent. */
        void report(int id, Order order) {
            int state = order == null ? REFUSED : '0' + order.state();
            int filled = order == null ? 0 : order.filled;
            int left = order == null ? 0 : order.left();
            store.keep(next, id, state, filled, left);
            if (in) {
                post(REPORT, next, false).say(id, state, filled, left);
            }
            next++;
        }

        private int receiveLow(boolean duplicate) {
            if (duplicate) {
                return IGNORED;
            }
            if (in) {
                logOut();
            }
            return LOW;
        }

        private int receiveEarly(Message message) {
            if (message.type == RESEND) {
                answerResend(message.values[0], message.values[1]);
            } else if (message.type == LOGOUT) {
                logOut();
            }
            if (in) {
                if (missing == 0) {
                    ask();
                }
                missing = Math.max(missing, message.number);
            }
            return EARLY;
        }

        private void receiveInTurn(Message message) {
            switch (message.type) {
                case TEST:
                    send(HEARTBEAT, message.values[0], 0);
                    break;
                case RESEND:
                    answerResend(message.values[0], message.values[1]);
                    break;
                case RESET:
                    raiseAwaited(message.values[0]);
                    break;
                case LOGOUT:
                    logOut();
                    break;
                case NEW:
                case CANCEL:
                case CHANGE:
                    orderMessages++;
                    report(message.values[0], book.carryOut(message));
                    break;
                default:
                    break;
            }
        }

        private boolean raiseAwaited(int number) {
            if (number <= awaited) {
                return false;
            }
            awaited = number;
            if (awaited > missing) {
                missing = 0;
            }
            return true;
        }

        private void ask() {
            send(RESEND, awaited, 0);
            asked = time;
        }

        private void logOut() {
            send(LOGOUT, 0, 0);
            leave();
        }

        /** For all but reports, and only while the session is IN. */
        private void send(int type, int first, int second) {
            post(type, next, false).say(first, second, 0, 0);
            next++;
        }

        private void answerResend(int from, int to) {
            int last = to == 0 || to >= next ? next - 1 : to;
            int unanswered = Math.max(from, 1);
            for (int k = 0; k < store.count; k++) {
                int number = store.numberOf(k);
                if (number >= unanswered && number <= last) {
                    postGap(unanswered, number);
                    store.recall(k, post(REPORT, number, true));
                    unanswered = number + 1;
                }
            }
            postGap(unanswered, last + 1);
        }

        private void postGap(int first, int behind) {
            if (first < behind) {
                post(RESET, first, true).say(behind, 1, 0, 0);
            }
        }

        private Message post(int type, int number, boolean duplicate) {
            said = time;
            Message posted = outbox.open();
            posted.begin(type, number, duplicate);
            return posted;
        }
    }
}
