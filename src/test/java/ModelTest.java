import java.util.Random;

/** Promises 1 to 13: long runs of calls, always the same ones, answered as by the model. */
public final class ModelTest {
    private static final int RUNS = 4000;
    private static final int CALLS = 512;
    private static final String TYPES = "01245ADFG";
    private static final String COMMON_TYPES = "0124ADDDDDFFGGG";

    private interface Answer {
        long get();
    }

    private final Random random;
    private final int run;
    private final TradeLink link = new TradeLink();
    private final Model model = new Model();
    private final StringBuilder story = new StringBuilder();
    private final int ids;
    private int calls = 0;
    private boolean apart = false;

    private ModelTest(int run) {
        this.run = run;
        random = new Random(run);
        ids = 5 + random.nextInt(100);
    }

    public static void main(String[] args) {
        for (int run = 0; run < RUNS; run++) {
            new ModelTest(run).play();
        }
        Check.end();
    }

    private void play() {
        while (calls < CALLS && !apart) {
            int kind = random.nextInt(100);
            if (kind < 38) {
                deliver();
            } else if (kind < 44) {
                deliverBytes();
            } else if (kind < 58) {
                ticks();
            } else if (kind < 59) {
                call("restart()", () -> link.restart() ? 1 : 0, () -> model.restart() ? 1 : 0);
            } else if (kind < 68) {
                fill();
            } else if (kind < 72) {
                oddArguments();
            } else {
                look();
            }
        }
    }

    private void deliver() {
        give();
        if (random.nextInt(12) == 0) {
            ticks();
        }
        if (random.nextInt(12) == 0) {
            fill();
        }
        int spoils = random.nextInt(8) == 0 ? 1 + random.nextInt(2) : 0;
        for (int i = 0; i < spoils; i++) {
            spoil();
        }
        call("take()", link::take, model::take);
        lookAtSent();
    }

    private void give() {
        boolean common = random.nextInt(4) > 0;
        char type = pick(common ? COMMON_TYPES : TYPES);
        if (model.session(3) == 0 && random.nextInt(3) > 0) {
            type = 'A';
        }
        int number = model.session(0);
        if (random.nextInt(8) == 0) {
            number = Math.max(0, number - 3 + random.nextInt(7));
        }
        number = Math.min(number, 999999);
        boolean duplicate = random.nextInt(4) == 0 || number < model.session(0) && random.nextInt(5) > 0;
        int a = type == '4' ? Math.min(999999, model.session(0) - 1 + random.nextInt(6)) : small();
        int b = type == '2' && random.nextBoolean() ? 0 : type == 'D' ? random.nextInt(8) == 0 ? 3 : 1 : small();
        if (type == '4') {
            b = random.nextInt(2);
        }
        give(type, number, duplicate, a, b, small());
    }

    private void give(int type, int number, boolean duplicate, int a, int b, int c) {
        String what = "give(" + type + ", " + number + ", " + duplicate + ", " + a + ", " + b + ", " + c + ")";
        call(what, () -> link.give(type, number, duplicate, a, b, c),
            () -> model.give(type, number, duplicate, a, b, c));
    }

    private int small() {
        return random.nextInt(40) == 0 ? random.nextInt(1000000) : random.nextInt(ids);
    }

    private void spoil() {
        int i = random.nextInt(45);
        int x = random.nextInt(3) == 0 ? 1 + random.nextInt(127) : 1;
        call("spoil(" + i + ", " + x + ")", () -> link.spoil(i, x), () -> model.spoil(i, x));
    }

    /** Frames that are nearly right, with a right length and a right sum. */
    private void deliverBytes() {
        String zeros = random.nextInt(4) == 0 ? "0000".substring(random.nextInt(4)) : "";
        String body = "35=" + pick(TYPES) + "|34=" + zeros + model.session(0) + "|"
            + (random.nextInt(3) == 0 ? "43=" + pick("YYYN") + "|" : "");
        String[] fields = {"112=5|", "7=1|16=0|", "36=" + zeros + "5|123=" + pick("YN12") + "|", "108=30|", "",
            "11=" + small() + "|54=" + zeros + "1|38=" + small() + "|", "11=" + small() + "|41=" + small() + "|",
            "11=" + small() + "|41=" + small() + "|38=" + small() + "|"};
        body += fields[random.nextInt(fields.length)];
        if (calls + 70 < CALLS) {
            for (char c : Side.frame(body).toCharArray()) {
                int octet = c == '|' ? 1 : c;
                call("add(" + octet + ")", () -> link.add(octet), () -> model.add(octet));
            }
            call("take()", link::take, model::take);
            lookAtSent();
        }
    }

    private void ticks() {
        int count = 1 + random.nextInt(random.nextInt(10) == 0 ? 26 : 5);
        for (int i = 0; i < count; i++) {
            call("tick()", link::tick, model::tick);
            lookAtSent();
        }
    }

    private void fill() {
        int id = random.nextInt(ids);
        int quantity = random.nextInt(1 + random.nextInt(ids));
        call("fill(" + id + ", " + quantity + ")", () -> link.fill(id, quantity), () -> model.fill(id, quantity));
        lookAtSent();
    }

    private void oddArguments() {
        int odd = new int[] {-1, 0, 127, 128, 1000000, Integer.MIN_VALUE, Integer.MAX_VALUE}[random.nextInt(7)];
        int even = random.nextInt(8);
        switch (random.nextInt(5)) {
            case 0 -> give(odd, even, false, even, even, even);
            case 1 -> give('D', even, false, odd, even, even);
            case 2 -> call("spoil(" + even + ", " + odd + ")", () -> link.spoil(even, odd),
                () -> model.spoil(even, odd));
            case 3 -> call("add(" + odd + ")", () -> link.add(odd), () -> model.add(odd));
            default -> call("fill(" + even + ", " + odd + ")", () -> link.fill(even, odd),
                () -> model.fill(even, odd));
        }
    }

    private void look() {
        int what = random.nextInt(9) - 1;
        int id = random.nextInt(ids);
        if (random.nextBoolean()) {
            call("session(" + what + ")", () -> link.session(what), () -> model.session(what));
        } else {
            call("order(" + id + ", " + what % 5 + ")", () -> link.order(id, what % 5), () -> model.order(id, what % 5));
        }
    }

    private void lookAtSent() {
        if (random.nextInt(3) == 0) {
            call("frames()", link::frames, model::frames);
        }
        int frames = model.frames();
        if (frames == 0 || random.nextBoolean()) {
            return;
        }
        int k = random.nextInt(frames + 1);
        call("length(" + k + ")", () -> link.length(k), () -> model.length(k));
        int from = random.nextInt(60);
        for (int i = from; i < from + 6; i++) {
            int at = i;
            call("octet(" + k + ", " + at + ")", () -> link.octet(k, at), () -> model.octet(k, at));
        }
    }

    private char pick(String from) {
        return from.charAt(random.nextInt(from.length()));
    }

    private void call(String what, Answer got, Answer due) {
        if (calls >= CALLS || apart) {
            return;
        }
        calls++;
        String wanted = answer(due);
        String answered = answer(got);
        story.append(what).append(" -> ").append(wanted).append('\n');
        if (!answered.equals(wanted)) {
            apart = true;
            System.out.print(story);
        }
        Check.same("run " + run + ", call " + calls + ": " + what, answered, wanted);
    }

    private static String answer(Answer answer) {
        try {
            return Long.toString(answer.get());
        } catch (RuntimeException e) {
            return "throws." + e.getClass().getSimpleName();
        }
    }
}
