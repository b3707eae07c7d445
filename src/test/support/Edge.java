import java.util.List;

/** Cases at the edges: what a refused call answers, and that nothing has changed by it. */
final class Edge {
    interface Call {
        long on(GateMaker x);
    }

    static final int LOW = Integer.MIN_VALUE;
    static final int HIGH = Integer.MAX_VALUE;
    private static final Call NO_CALL = x -> 0;

    private Edge() {
    }

    /** Refused in one state. */
    static void refused(String what, Made made, Call call, long due) {
        leaves(what, made, call, Long.toString(due));
    }

    /** Refused in every state, so before all refusals that come later in the document's order. */
    static void refusedAlways(String what, Call call, long due) {
        for (Made made : Made.values()) {
            refused(what, made, call, due);
        }
    }

    static void wrongArgument(String what, Made made, Call call) {
        leaves(what, made, call, "throws.IllegalArgumentException");
    }

    static void wrongArgumentAlways(String what, Call call) {
        for (Made made : Made.values()) {
            wrongArgument(what, made, call);
        }
    }

    static void wrongState(String what, Made made, Call call) {
        leaves(what, made, call, "throws.IllegalStateException");
    }

    /** A good call that only asks: its answer, and that asking changes nothing. */
    static void asked(String what, Made made, Call call, long due) {
        leaves(what, made, call, Long.toString(due));
    }

    private static void leaves(String what, Made made, Call call, String due) {
        String name = what + " (" + made + ")";
        GateMaker x = made.make();
        Check.same(name, Check.answerOf(() -> call.on(x)), due);
        List<String> before = State.behind(made, NO_CALL);
        List<String> behind = State.behind(made, call);
        Check.same(name + ": what it changed", difference(before, behind), "nothing");
    }

    private static String difference(List<String> before, List<String> behind) {
        for (int i = 0; i < before.size() && i < behind.size(); i++) {
            if (!before.get(i).equals(behind.get(i))) {
                return before.get(i) + ", then " + behind.get(i);
            }
        }
        return before.size() == behind.size() ? "nothing" : "how much can be asked";
    }
}
