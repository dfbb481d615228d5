/**
 * Terms, "a frame from the peer is TAKEN": by the first rule that applies, for every type, as a duplicate or not, with
 * numbers far below, just below, on, just above and far above AWAITED.
 */
public final class FirstThatAppliesTest {
    private static final int AWAITED = 5;
    private static final int MISSING = 8;
    private static final int[] BELOW = {0, 1, 4};
    private static final int[] ABOVE = {6, 7, 8, 9, 999999};
    private static final int[] ANY = {0, 1, 4, 5, 6, 8, 9, 999999};
    private static final String REPORT = "35=8|34=2|43=Y|11=7|39=0|14=0|151=10|";

    /** A type with what its fields say; a RESET stands here as a FILL. */
    private enum Kind {
        HEARTBEAT('0', 3, 0, 0), TEST('1', 77, 0, 0), RESEND('2', 2, 2, 0), FILL('4', 7, 1, 0), LOGOUT('5', 0, 0, 0),
        LOGON('A', 30, 0, 0), NEW('D', 8, 1, 5), CANCEL('F', 8, 7, 0), CHANGE('G', 8, 7, 20);

        private final int type;
        private final int a;
        private final int b;
        private final int c;

        Kind(int type, int a, int b, int c) {
            this.type = type;
            this.a = a;
            this.b = b;
            this.c = c;
        }

        int deliver(Side side, int number, boolean duplicate) {
            side.on().give(type, number, duplicate, a, b, c);
            return side.on().take();
        }

        int deliverGarbled(Side side, int number, boolean duplicate) {
            int size = side.on().give(type, number, duplicate, a, b, c);
            side.on().spoil(size - 2, 1);
            return side.on().take();
        }
    }

    public static void main(String[] args) {
        for (boolean duplicate : new boolean[] {false, true}) {
            for (Kind kind : Kind.values()) {
                garbled(kind, duplicate);
                outAndNoLogOn(kind, duplicate);
                below(kind, duplicate);
                above(kind, duplicate);
                aboveWhileMissing(kind, duplicate);
                onAwaited(kind, duplicate);
            }
            outAndReset(duplicate);
            resetsForNothing(duplicate);
            resets(duplicate);
            logOnWhileOut(duplicate);
        }
        Check.end();
    }

    /** IN, AWAITED 5, NEXT 4: its messages are 1 LOGON, 2 a report on order 7, 3 a HEARTBEAT. */
    private static Side in() {
        Side side = Side.loggedOn();
        side.deliver(Side.NEW, 2, 7, 1, 10);
        side.deliver(Side.TEST, 3, 1, 0, 0);
        side.deliver(Side.HEARTBEAT, 4, 0, 0, 0);
        side.state("IN", AWAITED, 4, 0, true);
        return side;
    }

    private static Side missing() {
        Side side = in();
        side.deliver(Side.HEARTBEAT, MISSING, 0, 0, 0);
        side.state("MISSING", AWAITED, 5, MISSING, true);
        return side;
    }

    private static Side out() {
        Side side = in();
        side.on().restart();
        side.state("OUT", AWAITED, 4, 0, false);
        return side;
    }

    /** Nothing has become of the orders. */
    private static void ordersStay(String what, Side side) {
        side.order(what, 7, 1, 10, 0, 0);
        Check.same(what + ": orders", side.on().session(5), 1);
        Check.same(what + ": messages of orders", side.on().session(6), 1);
    }

    private static String what(Object kind, int number, boolean duplicate) {
        return kind + " " + number + (duplicate ? ", a duplicate" : "");
    }

    private static void garbled(Kind kind, boolean duplicate) {
        for (int number : ANY) {
            String what = what("garbled " + kind, number, duplicate);
            Side in = in();
            Check.same(what, kind.deliverGarbled(in, number, duplicate), TradeLink.GARBLED);
            in.sent(what);
            in.state(what, AWAITED, 4, 0, true);
            ordersStay(what, in);
            Side out = out();
            Check.same(what + " while OUT", kind.deliverGarbled(out, number, duplicate), TradeLink.GARBLED);
            out.sent(what + " while OUT");
            out.state(what + " while OUT", AWAITED, 4, 0, false);
        }
    }

    private static void outAndNoLogOn(Kind kind, boolean duplicate) {
        if (kind == Kind.LOGON) {
            return;
        }
        for (int number : ANY) {
            String what = what(kind, number, duplicate) + " while OUT";
            Side side = out();
            Check.same(what, kind.deliver(side, number, duplicate), TradeLink.IGNORED);
            side.sent(what);
            side.state(what, AWAITED, 4, 0, false);
            ordersStay(what, side);
        }
    }

    private static void outAndReset(boolean duplicate) {
        for (int number : ANY) {
            String what = what("RESET", number, duplicate) + " while OUT";
            Side side = out();
            side.on().give(Side.RESET, number, duplicate, 999999, 0, 0);
            Check.same(what, side.on().take(), TradeLink.IGNORED);
            side.sent(what);
            side.state(what, AWAITED, 4, 0, false);
        }
    }

    /** Whatever its number is: neither low nor early. */
    private static void resetsForNothing(boolean duplicate) {
        for (int number : ANY) {
            for (int up : new int[] {0, 1, 4, 5}) {
                String what = what("RESET to " + up, number, duplicate);
                Side in = in();
                in.on().give(Side.RESET, number, duplicate, up, 0, 0);
                Check.same(what, in.on().take(), TradeLink.IGNORED);
                in.sent(what);
                in.state(what, AWAITED, 4, 0, true);
                Side missing = missing();
                missing.on().give(Side.RESET, number, duplicate, up, 0, 0);
                Check.same(what + " while MISSING", missing.on().take(), TradeLink.IGNORED);
                missing.state(what + " while MISSING", AWAITED, 5, MISSING, true);
            }
        }
    }

    private static void resets(boolean duplicate) {
        for (int number : ANY) {
            for (int up : new int[] {6, 7, 8, 9, 999999}) {
                String what = what("RESET to " + up, number, duplicate);
                Side in = in();
                in.on().give(Side.RESET, number, duplicate, up, 0, 0);
                Check.same(what, in.on().take(), TradeLink.DONE);
                in.sent(what);
                in.state(what, up, 4, 0, true);
                Side missing = missing();
                missing.on().give(Side.RESET, number, duplicate, up, 0, 0);
                Check.same(what + " while MISSING", missing.on().take(), TradeLink.DONE);
                missing.sent(what + " while MISSING");
                missing.state(what + " while MISSING", up, 5, up <= MISSING ? MISSING : 0, true);
            }
        }
    }

    private static void below(Kind kind, boolean duplicate) {
        for (int number : BELOW) {
            String what = what(kind, number, duplicate);
            Side in = in();
            Side missing = missing();
            if (duplicate) {
                Check.same(what, kind.deliver(in, number, true), TradeLink.IGNORED);
                in.sent(what);
                in.state(what, AWAITED, 4, 0, true);
                Check.same(what, kind.deliver(missing, number, true), TradeLink.IGNORED);
                missing.sent(what);
                missing.state(what, AWAITED, 5, MISSING, true);
            } else {
                Check.same(what, kind.deliver(in, number, false), TradeLink.LOW);
                in.sent(what, "35=5|34=4|");
                in.state(what, AWAITED, 5, 0, false);
                Check.same(what, kind.deliver(missing, number, false), TradeLink.LOW);
                missing.sent(what, "35=5|34=5|");
                missing.state(what, AWAITED, 6, 0, false);
            }
            ordersStay(what, in);
            ordersStay(what, missing);
        }
    }

    private static void logOnWhileOut(boolean duplicate) {
        for (int number : BELOW) {
            String what = what("LOGON", number, duplicate) + " while OUT";
            Side side = out();
            int due = duplicate ? TradeLink.IGNORED : TradeLink.LOW;
            Check.same(what, Kind.LOGON.deliver(side, number, duplicate), due);
            side.sent(what);
            side.state(what, AWAITED, 4, 0, false);
        }
        Side turn = out();
        Check.same("LOGON in its turn", Kind.LOGON.deliver(turn, AWAITED, duplicate), TradeLink.DONE);
        turn.sent("LOGON in its turn", "35=A|34=4|108=30|");
        turn.state("LOGON in its turn", 6, 5, 0, true);
        for (int number : ABOVE) {
            String what = what("LOGON", number, duplicate) + " while OUT";
            Side side = out();
            Check.same(what, Kind.LOGON.deliver(side, number, duplicate), TradeLink.EARLY);
            side.sent(what, "35=A|34=4|108=30|", "35=2|34=5|7=5|16=0|");
            side.state(what, AWAITED, 6, number, true);
        }
    }

    private static void above(Kind kind, boolean duplicate) {
        for (int number : ABOVE) {
            String what = what(kind, number, duplicate);
            Side side = in();
            Check.same(what, kind.deliver(side, number, duplicate), TradeLink.EARLY);
            if (kind == Kind.LOGOUT) {
                side.sent(what, "35=5|34=4|");
                side.state(what, AWAITED, 5, 0, false);
            } else if (kind == Kind.RESEND) {
                side.sent(what, REPORT, "35=2|34=4|7=5|16=0|");
                side.state(what, AWAITED, 5, number, true);
            } else {
                side.sent(what, "35=2|34=4|7=5|16=0|");
                side.state(what, AWAITED, 5, number, true);
            }
            ordersStay(what, side);
        }
    }

    private static void aboveWhileMissing(Kind kind, boolean duplicate) {
        for (int number : ABOVE) {
            String what = what(kind, number, duplicate) + " while MISSING";
            Side side = missing();
            Check.same(what, kind.deliver(side, number, duplicate), TradeLink.EARLY);
            if (kind == Kind.LOGOUT) {
                side.sent(what, "35=5|34=5|");
                side.state(what, AWAITED, 6, 0, false);
            } else {
                if (kind == Kind.RESEND) {
                    side.sent(what, REPORT);
                } else {
                    side.sent(what);
                }
                side.state(what, AWAITED, 5, number < MISSING ? MISSING : number, true);
            }
            ordersStay(what, side);
        }
    }

    /** What is missing does not change what becomes of a frame in its turn. */
    private static void onAwaited(Kind kind, boolean duplicate) {
        onAwaited(kind, duplicate, in(), 4, 0);
        onAwaited(kind, duplicate, missing(), 5, MISSING);
    }

    private static void onAwaited(Kind kind, boolean duplicate, Side side, int next, int missing) {
        String what = what(kind, AWAITED, duplicate);
        Check.same(what, kind.deliver(side, AWAITED, duplicate), TradeLink.DONE);
        switch (kind) {
            case TEST -> side.sent(what, "35=0|34=" + next + "|112=77|");
            case RESEND -> side.sent(what, REPORT);
            case LOGOUT -> side.sent(what, "35=5|34=" + next + "|");
            case NEW -> side.sent(what, "35=8|34=" + next + "|11=8|39=0|14=0|151=5|");
            case CANCEL -> side.sent(what, "35=8|34=" + next + "|11=8|39=4|14=0|151=0|");
            case CHANGE -> side.sent(what, "35=8|34=" + next + "|11=8|39=0|14=0|151=20|");
            default -> side.sent(what);
        }
        boolean says = kind != Kind.HEARTBEAT && kind != Kind.RESEND && kind != Kind.FILL && kind != Kind.LOGON;
        boolean out = kind == Kind.LOGOUT;
        side.state(what, kind == Kind.FILL ? 7 : 6, says ? next + 1 : next, out ? 0 : missing, !out);
        boolean order = kind == Kind.NEW || kind == Kind.CANCEL || kind == Kind.CHANGE;
        Check.same(what + ": messages of orders", side.on().session(6), order ? 2 : 1);
        if (!order) {
            ordersStay(what, side);
        }
    }
}
