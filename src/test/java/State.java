import java.util.function.Consumer;

/** The states that tests start from: each is reached by the same few calls on a new object. */
enum State {
    NEW_OBJECT(0, 0, side -> { }),
    ONE_BYTE(1, 0, side -> side.on().add(56)),
    FULL_ROW(120, 0, State::addFullRow),
    LOGON_GIVEN(33, 0, side -> side.on().give('A', 1, false, 30, 0, 0)),
    IN(0, 1, State::logOn),
    IN_WITH_FRAME(32, 0, side -> {
        logOn(side);
        side.on().give('1', 2, false, 5, 0, 0);
        side.on().tick();
    }),
    MISSING(0, 1, side -> {
        logOn(side);
        side.on().tick();
        side.deliver('0', 6, 0, 0, 0);
    }),
    MISSING_AND_LATER(0, 0, side -> {
        logOn(side);
        side.on().tick();
        side.deliver('0', 6, 0, 0, 0);
        side.ticks(3);
    }),
    ORDERS(0, 1, State::trade),
    ORDERS_AND_LATER(0, 0, side -> {
        trade(side);
        side.ticks(3);
    }),
    ORDERS_WITH_FULL_ROW(120, 1, side -> {
        trade(side);
        addFullRow(side);
        side.ticks(3);
        side.on().fill(12, 1);
    }),
    ORDERS_WITH_FRAME(38, 1, side -> {
        trade(side);
        side.on().give('F', 7, false, 20, 11, 0);
        side.on().fill(12, 1);
    }),
    ORDERS_OUT(0, 0, side -> {
        trade(side);
        side.on().restart();
        side.on().fill(12, 1);
    }),
    ORDERS_LOGGED_OUT(0, 1, side -> {
        trade(side);
        side.deliver('5', 7, 0, 0, 0);
    }),
    SENT_AGAIN(0, 6, side -> {
        trade(side);
        side.deliver('2', 7, 1, 6, 0);
    }),
    FORTY_ORDERS(0, 23, side -> {
        logOn(side);
        for (int i = 1; i <= 40; i++) {
            side.deliver('D', i + 1, i + 10, 1, 10);
        }
        side.deliver('2', 42, 4, 26, 0);
    }),
    NO_NUMBER_LEFT(0, 0, side -> {
        logOn(side);
        side.deliver('4', 2, 999999, 0, 0);
        side.deliver('0', 999999, 0, 0, 0);
    });

    /** How many bytes the peer's next frame has. */
    final int bytes;
    /** How many frames the latest call has sent. */
    final int sent;
    private final Consumer<Side> way;

    State(int bytes, int sent, Consumer<Side> way) {
        this.bytes = bytes;
        this.sent = sent;
        this.way = way;
    }

    Side reached() {
        Side side = new Side();
        way.accept(side);
        return side;
    }

    boolean isOut() {
        return this == NEW_OBJECT || this == ONE_BYTE || this == FULL_ROW || this == LOGON_GIVEN
            || this == ORDERS_OUT || this == ORDERS_LOGGED_OUT;
    }

    /** How much can be filled of the order with an id; 0 when no open order has it. */
    int left(int id) {
        if (this == FORTY_ORDERS) {
            return id >= 11 && id <= 50 ? 10 : 0;
        }
        if (!name().startsWith("ORDERS") && this != SENT_AGAIN) {
            return 0;
        }
        boolean filledOnceMore = this == ORDERS_WITH_FRAME || this == ORDERS_WITH_FULL_ROW || this == ORDERS_OUT;
        return id == 11 ? 10 : id == 12 ? filledOnceMore ? 5 : 6 : 0;
    }

    /** Whether there is an order with an id, in whatever state. */
    boolean knows(int id) {
        return left(id) > 0 || left(11) > 0 && this != FORTY_ORDERS && (id == 13 || id == 15);
    }

    private static void logOn(Side side) {
        side.deliver('A', 1, 30, 0, 0);
    }

    /** 11 is open, 12 is partly filled, 13 is filled, 15 is cancelled and was 14; the next frame has number 7. */
    private static void trade(Side side) {
        logOn(side);
        side.deliver('D', 2, 11, 1, 10);
        side.deliver('D', 3, 12, 2, 10);
        side.deliver('D', 4, 13, 1, 10);
        side.deliver('D', 5, 14, 1, 10);
        side.deliver('F', 6, 15, 14, 0);
        side.on().fill(12, 4);
        side.on().fill(13, 10);
    }

    private static void addFullRow(Side side) {
        for (int i = 0; i < 120; i++) {
            side.on().add(65);
        }
    }
}
