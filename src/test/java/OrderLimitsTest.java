import java.util.NoSuchElementException;

/**
 * Terms, ORDERS: each reason for a refusal alone, just on its limit and beyond it. A refused message changes nothing
 * but the numbers, the count of messages and the store of reports; what is just not refused is done.
 */
public final class OrderLimitsTest {
    private final Side side;
    private int number;

    private OrderLimitsTest() {
        side = Side.loggedOn();
        number = 2;
    }

    public static void main(String[] args) {
        newId();
        newSide();
        newQuantity();
        newWhenThereAreForty();
        cancelId();
        cancelOfNoOpenOrder();
        cancels();
        changeId();
        changeOfNoOpenOrder();
        changeQuantity();
        changeOfAPartlyFilled();
        usedIds();
        refusedIdsAreFree();
        severalReasons();
        notInTheirTurn();
        Check.end();
    }

    private void message(int type, int a, int b, int c) {
        Check.same("type " + (char) type, side.deliver(type, number, a, b, c), TradeLink.DONE);
        number++;
    }

    private void done(String what, int type, int a, int b, int c, String report) {
        int next = side.on().session(1);
        message(type, a, b, c);
        side.sent(what, "35=8|34=" + next + "|11=" + a + "|" + report);
    }

    /** The orders are looked at before and behind it. */
    private void refused(String what, int type, int a, int b, int c) {
        int next = side.on().session(1);
        int orders = side.on().session(5);
        int messages = side.on().session(6);
        String before = orders();
        message(type, a, b, c);
        side.sent(what, "35=8|34=" + next + "|11=" + a + "|39=8|14=0|151=0|");
        Check.same(what + ": the orders", orders(), before);
        side.state(what, number, next + 1, 0, true);
        Check.same(what + ": how many orders", side.on().session(5), orders);
        Check.same(what + ": messages of orders", side.on().session(6), messages + 1);
    }

    private String orders() {
        StringBuilder text = new StringBuilder();
        for (int id : new int[] {7, 9, 50}) {
            for (int what = 0; what <= 3; what++) {
                text.append(orderValue(id, what)).append(' ');
            }
        }
        return text.toString();
    }

    private String orderValue(int id, int what) {
        try {
            return Integer.toString(side.on().order(id, what));
        } catch (NoSuchElementException e) {
            return "none";
        }
    }

    /** 7 is partly filled, 9 is cancelled and was 8, 5 is filled: 5, 7, 8 and 9 are used. */
    private static OrderLimitsTest withOrders() {
        OrderLimitsTest t = new OrderLimitsTest();
        t.message(Side.NEW, 7, 1, 10);
        t.message(Side.NEW, 8, 2, 10);
        t.message(Side.CANCEL, 9, 8, 0);
        t.message(Side.NEW, 5, 1, 3);
        t.side.on().fill(7, 4);
        t.side.on().fill(5, 3);
        return t;
    }

    private static void newId() {
        OrderLimitsTest t = withOrders();
        withOrders().refused("id 0", Side.NEW, 0, 1, 10);
        withOrders().refused("the id of an order", Side.NEW, 7, 1, 10);
        withOrders().refused("the id of a filled one", Side.NEW, 5, 1, 10);
        withOrders().refused("the id of a cancelled one", Side.NEW, 9, 1, 10);
        withOrders().refused("an id that an order had", Side.NEW, 8, 1, 10);
        t.done("id 1", Side.NEW, 1, 1, 10, "39=0|14=0|151=10|");
        t.done("id 6", Side.NEW, 6, 1, 10, "39=0|14=0|151=10|");
        t.done("id 999999", Side.NEW, 999999, 1, 10, "39=0|14=0|151=10|");
        t.refused("id 999999 again", Side.NEW, 999999, 1, 10);
    }

    private static void newSide() {
        OrderLimitsTest t = withOrders();
        withOrders().refused("side 0", Side.NEW, 50, 0, 10);
        withOrders().refused("side 3", Side.NEW, 50, 3, 10);
        withOrders().refused("side 4", Side.NEW, 50, 4, 10);
        withOrders().refused("side 10", Side.NEW, 50, 10, 10);
        withOrders().refused("side 999999", Side.NEW, 50, 999999, 10);
        t.done("side 1", Side.NEW, 50, 1, 10, "39=0|14=0|151=10|");
        t.side.order("side 1", 50, 1, 10, 0, 0);
        t.done("side 2", Side.NEW, 51, 2, 10, "39=0|14=0|151=10|");
        t.side.order("side 2", 51, 2, 10, 0, 0);
    }

    private static void newQuantity() {
        OrderLimitsTest t = withOrders();
        withOrders().refused("quantity 0", Side.NEW, 50, 1, 0);
        t.done("quantity 1", Side.NEW, 50, 1, 1, "39=0|14=0|151=1|");
        t.side.order("quantity 1", 50, 1, 1, 0, 0);
        t.done("quantity 999999", Side.NEW, 51, 2, 999999, "39=0|14=0|151=999999|");
        t.side.order("quantity 999999", 51, 2, 999999, 0, 0);
    }

    /** 7, 9 and 5 as above, and 104 to 139: one order less than there can be. */
    private static OrderLimitsTest withThirtyNine() {
        OrderLimitsTest t = withOrders();
        for (int count = 4; count <= 39; count++) {
            t.message(Side.NEW, 100 + count, 1, 10);
        }
        Check.same("39 orders", t.side.on().session(5), 39);
        return t;
    }

    private static OrderLimitsTest withForty() {
        OrderLimitsTest t = withThirtyNine();
        t.done("the fortieth", Side.NEW, 50, 1, 10, "39=0|14=0|151=10|");
        Check.same("40 orders", t.side.on().session(5), 40);
        return t;
    }

    private static void newWhenThereAreForty() {
        OrderLimitsTest t = withForty();
        t.refused("one more", Side.NEW, 51, 1, 10);
        t.done("its id is not used", Side.CANCEL, 51, 105, 0, "39=4|14=0|151=0|");
        t.refused("a cancelled one is an order", Side.NEW, 52, 1, 10);
        OrderLimitsTest filled = withForty();
        filled.side.on().fill(104, 10);
        filled.refused("a filled one is an order", Side.NEW, 51, 1, 10);
        OrderLimitsTest changed = withForty();
        changed.done("a CHANGE goes on", Side.CHANGE, 51, 50, 20, "39=0|14=0|151=20|");
        changed.refused("it makes no room", Side.NEW, 52, 1, 10);
        OrderLimitsTest restarted = withForty();
        restarted.restart();
        restarted.refused("orders stay over a restart", Side.NEW, 51, 1, 10);
    }

    private void restart() {
        side.on().restart();
        Check.same("a LOGON", side.deliver(Side.LOGON, number, 30, 0, 0), TradeLink.DONE);
        number++;
    }

    private static void cancelId() {
        OrderLimitsTest t = withOrders();
        withOrders().refused("id 0", Side.CANCEL, 0, 7, 0);
        withOrders().refused("the order's own id", Side.CANCEL, 7, 7, 0);
        withOrders().refused("another one's id", Side.CANCEL, 5, 7, 0);
        withOrders().refused("an id that an order had", Side.CANCEL, 8, 7, 0);
        withOrders().refused("the id of a CANCEL", Side.CANCEL, 9, 7, 0);
        t.done("id 1", Side.CANCEL, 1, 7, 0, "39=4|14=4|151=0|");
    }

    private static void cancelOfNoOpenOrder() {
        OrderLimitsTest t = withOrders();
        withOrders().refused("order 0", Side.CANCEL, 50, 0, 0);
        withOrders().refused("no such order", Side.CANCEL, 50, 999999, 0);
        withOrders().refused("no such order yet", Side.CANCEL, 50, 50, 0);
        withOrders().refused("a filled one", Side.CANCEL, 50, 5, 0);
        withOrders().refused("a cancelled one", Side.CANCEL, 50, 9, 0);
        withOrders().refused("a cancelled one's old id", Side.CANCEL, 50, 8, 0);
        t.done("a partly filled one", Side.CANCEL, 50, 7, 0, "39=4|14=4|151=0|");
        t.refused("its old id", Side.CANCEL, 51, 7, 0);
        t.refused("its new id", Side.CANCEL, 51, 50, 0);
    }

    /** Whatever the field 38 of a CHANGE would have said. */
    private static void cancels() {
        for (int filled : new int[] {0, 1, 9}) {
            OrderLimitsTest t = new OrderLimitsTest();
            t.message(Side.NEW, 7, 2, 10);
            if (filled > 0) {
                t.side.on().fill(7, filled);
            }
            t.done("filled " + filled, Side.CANCEL, 999999, 7, 0, "39=4|14=" + filled + "|151=0|");
            t.side.order("filled " + filled, 999999, 2, 10, filled, 4);
            Check.throwing("its old id", NoSuchElementException.class, () -> t.side.on().order(7, 3));
            Check.throwing("fill", NoSuchElementException.class, () -> t.side.on().fill(999999, 1));
        }
    }

    private static void changeId() {
        OrderLimitsTest t = withOrders();
        withOrders().refused("id 0", Side.CHANGE, 0, 7, 20);
        withOrders().refused("the order's own id", Side.CHANGE, 7, 7, 20);
        withOrders().refused("another one's id", Side.CHANGE, 5, 7, 20);
        withOrders().refused("an id that an order had", Side.CHANGE, 8, 7, 20);
        withOrders().refused("the id of a CANCEL", Side.CHANGE, 9, 7, 20);
        t.done("id 1", Side.CHANGE, 1, 7, 20, "39=1|14=4|151=16|");
        t.refused("the id that it had", Side.CHANGE, 7, 1, 30);
        t.done("id 999999", Side.CHANGE, 999999, 1, 30, "39=1|14=4|151=26|");
    }

    private static void changeOfNoOpenOrder() {
        OrderLimitsTest t = withOrders();
        withOrders().refused("order 0", Side.CHANGE, 50, 0, 20);
        withOrders().refused("no such order", Side.CHANGE, 50, 999999, 20);
        withOrders().refused("no such order yet", Side.CHANGE, 50, 50, 20);
        withOrders().refused("a filled one", Side.CHANGE, 50, 5, 20);
        withOrders().refused("a cancelled one", Side.CHANGE, 50, 9, 20);
        withOrders().refused("a cancelled one's old id", Side.CHANGE, 50, 8, 20);
        t.done("an open one", Side.CHANGE, 50, 7, 20, "39=1|14=4|151=16|");
        t.refused("its old id", Side.CHANGE, 51, 7, 20);
    }

    private static void changeQuantity() {
        OrderLimitsTest t = new OrderLimitsTest();
        t.message(Side.NEW, 7, 2, 10);
        t.refused("0, and 0 is filled", Side.CHANGE, 50, 7, 0);
        t.done("1", Side.CHANGE, 50, 7, 1, "39=0|14=0|151=1|");
        t.side.order("1", 50, 2, 1, 0, 0);
        t.done("the same quantity", Side.CHANGE, 51, 50, 1, "39=0|14=0|151=1|");
        t.done("999999", Side.CHANGE, 52, 51, 999999, "39=0|14=0|151=999999|");
        Check.same("all of it", t.side.on().fill(52, 999999), 999999);
        t.refused("all is filled", Side.CHANGE, 53, 52, 999999);
    }

    private static void changeOfAPartlyFilled() {
        OrderLimitsTest t = withOrders();
        for (int quantity = 0; quantity <= 4; quantity++) {
            withOrders().refused(quantity + ", and 4 is filled", Side.CHANGE, 50, 7, quantity);
        }
        t.done("5, and 4 is filled", Side.CHANGE, 50, 7, 5, "39=1|14=4|151=1|");
        t.side.order("5, and 4 is filled", 50, 1, 5, 4, 1);
        Check.throwing("2 are too many", IllegalArgumentException.class, () -> t.side.on().fill(50, 2));
        Check.same("1 is left", t.side.on().fill(50, 1), 5);
        t.side.order("filled", 50, 1, 5, 5, 2);
        t.refused("filled", Side.CHANGE, 51, 50, 6);
    }

    /** An id that an order or a message had is used for ever, over a chain of changes and a restart. */
    private static void usedIds() {
        OrderLimitsTest t = new OrderLimitsTest();
        t.message(Side.NEW, 1, 1, 10);
        for (int id = 2; id <= 20; id++) {
            t.message(Side.CHANGE, id, id - 1, 10);
        }
        t.restart();
        for (int id = 1; id <= 20; id++) {
            t.message(Side.NEW, id, 1, 10);
            Check.same("id " + id + ": orders", t.side.on().session(5), 1);
        }
        t.done("id 21", Side.NEW, 21, 1, 10, "39=0|14=0|151=10|");
    }

    private static void refusedIdsAreFree() {
        OrderLimitsTest t = withOrders();
        t.refused("a NEW", Side.NEW, 50, 3, 10);
        t.refused("a CANCEL", Side.CANCEL, 50, 60, 0);
        t.refused("a CHANGE", Side.CHANGE, 50, 7, 4);
        t.done("the id is free", Side.CHANGE, 50, 7, 6, "39=1|14=4|151=2|");
    }

    private static void severalReasons() {
        withOrders().refused("all of a NEW", Side.NEW, 0, 0, 0);
        withOrders().refused("all of a NEW, with a used id", Side.NEW, 7, 3, 0);
        withOrders().refused("all of a CANCEL", Side.CANCEL, 0, 0, 0);
        withOrders().refused("all of a CHANGE", Side.CHANGE, 0, 0, 0);
        withOrders().refused("all of a CHANGE, with a used id", Side.CHANGE, 8, 9, 0);
    }

    /** Low, early, garbled or while OUT: no message of an order is counted, and none has an effect. */
    private static void notInTheirTurn() {
        OrderLimitsTest t = withOrders();
        int messages = t.side.on().session(6);
        String before = t.orders();
        Check.same("low", t.side.deliverDuplicate(Side.CANCEL, t.number - 1, 50, 7, 0), TradeLink.IGNORED);
        Check.same("early", t.side.deliver(Side.CANCEL, t.number + 1, 50, 7, 0), TradeLink.EARLY);
        t.side.on().give(Side.CANCEL, t.number, false, 50, 7, 0);
        t.side.on().add(1);
        Check.same("garbled", t.side.on().take(), TradeLink.GARBLED);
        t.side.on().restart();
        Check.same("OUT", t.side.deliver(Side.CANCEL, t.number, 50, 7, 0), TradeLink.IGNORED);
        Check.same("messages of orders", t.side.on().session(6), messages);
        Check.same("the orders", t.orders(), before);
    }
}
