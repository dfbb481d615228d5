import java.util.NoSuchElementException;
import java.util.Random;

/**
 * LANGUAGE.md, rule 7: no call throws what the document does not name for it, for any arguments in any state. Far
 * beyond 512 calls answers are free, but this still holds.
 */
public final class ManyCallsTest {
    private static final int OBJECTS = 150;
    private static final int CALLS = 4000;
    private static final int[] ODD = {-1, 0, 1, 19, 20, 120, 127, 128, 999999, 1000000, Integer.MIN_VALUE,
        Integer.MAX_VALUE};

    private final Random random;
    private final TradeLink link = new TradeLink();

    private ManyCallsTest(int seed) {
        random = new Random(seed);
    }

    public static void main(String[] args) {
        for (int seed = 0; seed < OBJECTS; seed++) {
            ManyCallsTest test = new ManyCallsTest(seed);
            for (int i = 0; i < CALLS; i++) {
                test.call(i);
            }
        }
        manyReports();
        Check.end();
    }

    private void call(int i) {
        int kind = random.nextInt(12);
        String thrown = "";
        try {
            run(kind);
        } catch (RuntimeException e) {
            thrown = e.getClass().getSimpleName();
        }
        String allowed = switch (kind) {
            case 0, 1, 2 -> " IllegalArgumentException";
            case 3 -> " IndexOutOfBoundsException IllegalArgumentException";
            case 4 -> " IllegalArgumentException IllegalStateException";
            case 5, 6 -> " IllegalStateException";
            case 7 -> "";
            case 8 -> " NoSuchElementException IllegalArgumentException";
            case 11 -> " NoSuchElementException IndexOutOfBoundsException";
            default -> " IndexOutOfBoundsException";
        };
        Check.same("call " + i + " of kind " + kind + " throws " + thrown,
            thrown.isEmpty() || allowed.contains(" " + thrown), true);
    }

    private void run(int kind) {
        switch (kind) {
            case 0 -> link.give(any(), any(), random.nextBoolean(), any(), any(), any());
            case 1, 2 -> link.give("01245ADFG".charAt(random.nextInt(9)), Math.min(999999, link.session(0)),
                random.nextBoolean(), random.nextInt(3000), random.nextInt(4), random.nextInt(50));
            case 3 -> link.spoil(any(), any());
            case 4 -> link.add(any());
            case 5, 6 -> link.take();
            case 7 -> {
                link.tick();
                if (random.nextInt(20) == 0) {
                    link.restart();
                }
                link.frames();
            }
            case 8 -> link.fill(random.nextInt(3000), any());
            case 9 -> link.octet(any(), any());
            case 10 -> {
                link.session(any());
                link.length(any());
            }
            default -> link.order(any(), any());
        }
    }

    private int any() {
        return random.nextBoolean() ? ODD[random.nextInt(ODD.length)] : random.nextInt(200);
    }

    /** More reports and used ids than an object has to store. */
    private static void manyReports() {
        TradeLink other = new TradeLink();
        other.give('A', 1, false, 1, 0, 0);
        other.take();
        other.give('D', 2, false, 1, 1, 999999);
        other.take();
        for (int i = 2; i < 2000; i++) {
            other.give('G', i + 1, false, i, i - 1, 999999);
            other.take();
            other.fill(i, 1);
        }
        other.give('2', 2001, false, 1, 0, 0);
        other.take();
        Check.same("it has sent them again", other.frames() > 20, true);
        Check.same("the last order", other.order(1999, 2), 1998);
        try {
            other.fill(7, 1);
        } catch (NoSuchElementException e) {
            return;
        }
        Check.same("fill(7, 1)", "nothing thrown", "NoSuchElementException");
    }
}
