/** Counts and prints what is not as it must be; a test ends with Check.end(). */
final class Check {
    interface Call {
        void run();
    }

    private static int wrong = 0;
    private static int checks = 0;

    private Check() {
    }

    static void same(String what, long got, long want) {
        same(what, Long.toString(got), Long.toString(want));
    }

    static void same(String what, boolean got, boolean want) {
        same(what, Boolean.toString(got), Boolean.toString(want));
    }

    static void same(String what, String got, String want) {
        checks++;
        if (!got.equals(want)) {
            wrong++;
            System.out.println(what + " answered " + got + ", due is " + want);
        }
    }

    static void throwing(String what, Class<? extends RuntimeException> due, Call call) {
        same(what, thrownBy(call), due.getSimpleName());
    }

    static void end() {
        if (checks == 0) {
            System.out.println("nothing was checked");
            System.exit(1);
        }
        System.exit(wrong == 0 ? 0 : 1);
    }

    private static String thrownBy(Call call) {
        try {
            call.run();
        } catch (RuntimeException e) {
            return e.getClass().getSimpleName();
        }
        return "nothing thrown";
    }
}
