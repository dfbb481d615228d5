import java.util.NoSuchElementException;

/** Promise 5, take: NEW, CANCEL and CHANGE. */
public final class OrderMessagesTest {
    private final Side side = Side.loggedOn();
    private int number = 2;

    public static void main(String[] args) {
        newOrders();
        cancels();
        changes();
        usedIds();
        fortyOrders();
        Check.end();
    }

    private void message(String what, int type, int a, int b, int c, String report) {
        Check.same(what, side.deliver(type, number, a, b, c), TradeLink.DONE);
        side.sent(what, "35=8|34=" + number + "|" + report);
        number++;
    }

    private void refused(String what, int type, int a, int b, int c) {
        message(what, type, a, b, c, "11=" + a + "|39=8|14=0|151=0|");
    }

    private static void newOrders() {
        OrderMessagesTest t = new OrderMessagesTest();
        t.refused("id 0", Side.NEW, 0, 1, 10);
        t.refused("side 0", Side.NEW, 7, 0, 10);
        t.refused("side 3", Side.NEW, 7, 3, 10);
        t.refused("quantity 0", Side.NEW, 7, 1, 0);
        Check.same("no orders", t.side.on().session(5), 0);
        t.message("a NEW", Side.NEW, 7, 1, 10, "11=7|39=0|14=0|151=10|");
        t.side.order("a NEW", 7, 1, 10, 0, 0);
        t.message("the other side", Side.NEW, 999999, 2, 999999, "11=999999|39=0|14=0|151=999999|");
        t.side.order("the other side", 999999, 2, 999999, 0, 0);
        t.refused("the same id", Side.NEW, 7, 1, 10);
        Check.same("orders", t.side.on().session(5), 2);
        Check.same("messages", t.side.on().session(6), 7);
    }

    private static void cancels() {
        OrderMessagesTest t = new OrderMessagesTest();
        t.refused("no such order", Side.CANCEL, 8, 7, 0);
        t.message("a NEW", Side.NEW, 7, 1, 10, "11=7|39=0|14=0|151=10|");
        t.refused("id 0", Side.CANCEL, 0, 7, 0);
        t.refused("its own id", Side.CANCEL, 7, 7, 0);
        t.refused("order 0", Side.CANCEL, 8, 0, 0);
        t.message("a CANCEL", Side.CANCEL, 8, 7, 0, "11=8|39=4|14=0|151=0|");
        t.side.order("a CANCEL", 8, 1, 10, 0, 4);
        Check.throwing("its old id", NoSuchElementException.class, () -> t.side.on().order(7, 3));
        t.refused("its old id", Side.CANCEL, 9, 7, 0);
        t.refused("it is cancelled", Side.CANCEL, 9, 8, 0);
        Check.same("orders", t.side.on().session(5), 1);
        Check.same("messages", t.side.on().session(6), 8);
    }

    private static void changes() {
        Side side = Side.loggedOn();
        side.deliver(Side.NEW, 2, 7, 1, 10);
        side.deliver(Side.CHANGE, 3, 8, 6, 10);
        side.sent("no such order", "35=8|34=3|11=8|39=8|14=0|151=0|");
        side.deliver(Side.CHANGE, 4, 0, 7, 10);
        side.sent("id 0", "35=8|34=4|11=0|39=8|14=0|151=0|");
        side.deliver(Side.CHANGE, 5, 7, 7, 10);
        side.sent("its own id", "35=8|34=5|11=7|39=8|14=0|151=0|");
        side.deliver(Side.CHANGE, 6, 8, 7, 0);
        side.sent("quantity 0", "35=8|34=6|11=8|39=8|14=0|151=0|");
        side.deliver(Side.CHANGE, 7, 8, 7, 1);
        side.sent("a CHANGE", "35=8|34=7|11=8|39=0|14=0|151=1|");
        side.order("a CHANGE", 8, 1, 1, 0, 0);

        Side other = Side.loggedOn();
        other.deliver(Side.NEW, 2, 7, 2, 10);
        other.on().fill(7, 4);
        other.deliver(Side.CHANGE, 3, 8, 7, 4);
        other.sent("what is filled", "35=8|34=4|11=8|39=8|14=0|151=0|");
        other.order("it stays", 7, 2, 10, 4, 1);
        other.deliver(Side.CHANGE, 4, 8, 7, 5);
        other.sent("one above", "35=8|34=5|11=8|39=1|14=4|151=1|");
        other.order("one above", 8, 2, 5, 4, 1);
        other.deliver(Side.CANCEL, 5, 9, 8, 0);
        other.sent("a CANCEL when some is filled", "35=8|34=6|11=9|39=4|14=4|151=0|");
        other.order("it is cancelled", 9, 2, 5, 4, 4);
        other.deliver(Side.CHANGE, 6, 10, 9, 50);
        other.sent("a CHANGE of a cancelled one", "35=8|34=7|11=10|39=8|14=0|151=0|");
    }

    private static void usedIds() {
        Side side = Side.loggedOn();
        side.deliver(Side.NEW, 2, 7, 3, 10);
        side.deliver(Side.NEW, 3, 7, 1, 10);
        side.sent("a refused message uses no id", "35=8|34=3|11=7|39=0|14=0|151=10|");
        side.deliver(Side.CHANGE, 4, 8, 7, 20);
        side.deliver(Side.NEW, 5, 7, 1, 10);
        side.sent("an id that an order had", "35=8|34=5|11=7|39=8|14=0|151=0|");
        side.deliver(Side.CHANGE, 6, 7, 8, 30);
        side.sent("its old id again", "35=8|34=6|11=7|39=8|14=0|151=0|");
        side.deliver(Side.NEW, 7, 8, 1, 10);
        side.sent("the id of a CHANGE", "35=8|34=7|11=8|39=8|14=0|151=0|");
        side.deliver(Side.CANCEL, 8, 9, 8, 0);
        side.deliver(Side.NEW, 9, 9, 1, 10);
        side.sent("the id of a CANCEL", "35=8|34=9|11=9|39=8|14=0|151=0|");
        Check.same("orders", side.on().session(5), 1);
        Check.same("messages", side.on().session(6), 8);
    }

    private static void fortyOrders() {
        Side side = Side.loggedOn();
        for (int i = 1; i <= 40; i++) {
            Check.same("order " + i, side.deliver(Side.NEW, i + 1, i, 1, i), TradeLink.DONE);
        }
        Check.same("orders", side.on().session(5), 40);
        side.deliver(Side.NEW, 42, 41, 1, 1);
        side.sent("one more", "35=8|34=42|11=41|39=8|14=0|151=0|");
        side.deliver(Side.CANCEL, 43, 41, 40, 0);
        side.sent("a CANCEL", "35=8|34=43|11=41|39=4|14=0|151=0|");
        side.deliver(Side.NEW, 44, 42, 1, 1);
        side.sent("a cancelled one counts", "35=8|34=44|11=42|39=8|14=0|151=0|");
        Check.same("orders", side.on().session(5), 40);
        side.order("the first", 1, 1, 1, 0, 0);
        side.order("the last but one", 39, 1, 39, 0, 0);
        side.order("the last", 41, 1, 40, 0, 4);
    }
}
