/** Counts and prints the answers that are not as due; a test ends with end(). */
final class Check {
    interface Call {
        long answer();
    }

    private static int wrong = 0;
    private static int seen = 0;

    private Check() {
    }

    static void due(String what, long got, long want) {
        same(what, Long.toString(got), Long.toString(want));
    }

    static void same(String what, String got, String want) {
        seen++;
        if (!got.equals(want)) {
            wrong++;
            System.out.println(what + " answered " + got + ", due is " + want);
        }
    }

    static void wrongArgument(String what, Call call) {
        same(what, answerOf(call), "throws.IllegalArgumentException");
    }

    static void wrongState(String what, Call call) {
        same(what, answerOf(call), "throws.IllegalStateException");
    }

    /** The answer as a text, so that an exception is compared like any other answer. */
    static String answerOf(Call call) {
        try {
            return Long.toString(call.answer());
        } catch (RuntimeException thrown) {
            return "throws." + thrown.getClass().getSimpleName();
        }
    }

    static int wrongSoFar() {
        return wrong;
    }

    static void end() {
        System.out.println(seen + " answers looked at, " + wrong + " not as due");
        if (wrong != 0) {
            System.exit(1);
        }
    }
}
