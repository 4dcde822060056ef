/** Compares answers with the ones that are due, and ends a test that found another one with exit code 1. */
final class Due {
    interface Call {
        Object answer();
    }

    static final Class<? extends Throwable> INDEX = IndexOutOfBoundsException.class;
    static final Class<? extends Throwable> ARGUMENT = IllegalArgumentException.class;
    static final Class<? extends Throwable> STATE = IllegalStateException.class;

    private static int asked;
    private static int wrong;

    private Due() {
    }

    /** The due answer is a Boolean, an Integer, a Double, or the class of an exception, just that one. */
    static void due(String call, Object want, Call asking) {
        same(call, want, answerOf(asking));
    }

    /** A call that is not refused, whatever it answers. */
    static void taken(String call, Call asking) {
        Object got = answerOf(asking);
        same(call + " is taken", "an answer", isAnswer(got) ? "an answer" : got);
    }

    /** What a call answers, or the class of the exception that it throws. */
    static Object answerOf(Call asking) {
        try {
            return asking.answer();
        } catch (RuntimeException e) {
            return thrownByTheClass(e) ? e.getClass() : "a throw of the machine or its library: " + e;
        }
    }

    private static boolean isAnswer(Object got) {
        return got instanceof Boolean || got instanceof Integer || got instanceof Double;
    }

    /** The class throws for itself: an index that a list or an array finds wrong is a fault. */
    private static boolean thrownByTheClass(RuntimeException e) {
        StackTraceElement[] trace = e.getStackTrace();
        boolean ofTheDocument = e.getClass() == INDEX || e.getClass() == ARGUMENT || e.getClass() == STATE;
        return ofTheDocument && trace.length > 0 && trace[0].getClassName().startsWith("PlankUnroll");
    }

    static void same(String call, Object want, Object got) {
        asked++;
        if (!alike(want, got)) {
            wrong++;
            if (wrong <= 20) {
                System.out.println(call + " answered " + got + ", due is " + want);
            }
        }
    }

    /** -0.0 and 0.0 are one number here, as by ==. */
    private static boolean alike(Object want, Object got) {
        if (want instanceof Double && got instanceof Double) {
            return ((Double) want).doubleValue() == ((Double) got).doubleValue();
        }
        return want.equals(got);
    }

    static int wrongSoFar() {
        return wrong;
    }

    static void end(String test) {
        System.out.println(test + ": " + asked + " answers, " + wrong + " wrong");
        if (wrong != 0 || asked == 0) {
            System.exit(1);
        }
    }
}
