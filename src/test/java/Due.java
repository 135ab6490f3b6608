/** What the tests share: it compares answers with what is due, and ends a failed test with exit code 1. */
final class Due {
    interface Call {
        int answer();
    }

    static final Class<?> INDEX = IndexOutOfBoundsException.class;
    static final Class<?> ARGUMENT = IllegalArgumentException.class;
    static final Class<?> STATE = IllegalStateException.class;

    private static int compared = 0;
    private static int wrong = 0;

    private Due() {
    }

    static void is(String what, long got, long want) {
        compared++;
        if (got != want) {
            fail(what + " answered " + got + ", due is " + want);
        }
    }

    static void is(String what, String got, String want) {
        compared++;
        if (!got.equals(want)) {
            fail(what + " answered " + got + ", due is " + want);
        }
    }

    static void holds(String what, boolean truth) {
        compared++;
        if (!truth) {
            fail(what + " does not hold");
        }
    }

    /** The very class is due: a subclass would be one that the machine throws. */
    static void throwing(String what, Class<?> want, Call call) {
        is(what, outcome(call), "throws " + want.getSimpleName());
    }

    static String outcome(Call call) {
        try {
            return String.valueOf(call.answer());
        } catch (RuntimeException e) {
            return "throws " + e.getClass().getSimpleName();
        }
    }

    private static void fail(String text) {
        wrong++;
        System.out.println(text);
    }

    static void end() {
        System.out.println(compared + " answers compared, " + wrong + " not as due");
        if (wrong != 0 || compared == 0) {
            System.exit(1);
        }
    }
}
