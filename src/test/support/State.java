import java.util.ArrayList;
import java.util.List;

/**
 * All that can be asked of an object, as lines of text. Each view looks at an object of its own, so
 * that none is used for more calls than the document allows, and a view may change what it looks at.
 */
final class State {
    /** Far enough below 512 that what made the object has room too. */
    private static final int MOST_CALLS = 400;

    private interface View {
        void look(State seen);
    }

    private static final View[] VIEWS = {
        State::lookAtBlock, State::lookAtPlan, State::lookAtRun, seen -> seen.lookAtShelves(0),
        seen -> seen.lookAtShelves(7), State::lookAtStock, State::lookAtFed,
    };

    private final List<String> lines;
    private final GateMaker x;
    private int calls = 0;

    private State(GateMaker x, List<String> lines) {
        this.x = x;
        this.lines = lines;
    }

    /** What is seen behind a call on objects made alike. */
    static List<String> behind(Made made, Edge.Call call) {
        List<String> lines = new ArrayList<>();
        for (View view : VIEWS) {
            GateMaker x = made.make();
            Check.answerOf(() -> call.on(x));
            State state = new State(x, lines);
            view.look(state);
            if (state.calls > MOST_CALLS) {
                Check.due("calls of one view", state.calls, MOST_CALLS);
            }
        }
        return lines;
    }

    private String ask(String call, Check.Call answer) {
        String text = Check.answerOf(answer);
        calls++;
        lines.add(call + ": " + text);
        return text;
    }

    private void lookAtBlock() {
        int acts = x.count(0);
        for (int i = 0; i <= 6; i++) {
            int what = i;
            ask("count " + i, () -> x.count(what));
        }
        for (int i = 0; i <= 5; i++) {
            int what = i;
            ask("bound " + i, () -> x.bound(what));
        }
        for (int a = 0; a < acts; a++) {
            int act = a;
            for (int i = 0; i <= 8; i++) {
                int what = i;
                ask("act " + a + " " + i, () -> x.act(act, what));
            }
            ask("least of " + a, () -> x.span(act, false));
            ask("greatest of " + a, () -> x.span(act, true));
            for (int b = a + 1; b < acts; b++) {
                int later = b;
                ask("needs " + a + " " + b, () -> x.needs(act, later));
            }
        }
    }

    private void lookAtPlan() {
        int acts = x.count(0);
        ask("registers", x::registers);
        for (int a = 0; a < acts; a++) {
            int act = a;
            for (int i = 0; i <= 6; i++) {
                int what = i;
                ask("tick " + a + " " + i, () -> x.tick(act, what));
            }
        }
        for (int k = 0; k < 4; k++) {
            int kind = k;
            for (int i = 0; i < 4; i++) {
                int part = i;
                ask("chooser of x " + k + " " + i, () -> x.chooser(kind, part, false));
                ask("chooser of y " + k + " " + i, () -> x.chooser(kind, part, true));
            }
        }
        for (int t = 0; t < 24; t++) {
            int tick = t;
            for (int i = 0; i < 4; i++) {
                int k = i;
                ask("at " + t + " " + i, () -> x.at(tick, k));
            }
        }
    }

    private void lookAtRun() {
        for (int i = 0; i <= 4; i++) {
            int what = i;
            ask("told " + i, () -> x.told(what));
        }
        for (int p = 0; p < 4; p++) {
            int port = p;
            ask("outs " + p, () -> x.outs(port));
            String last = "";
            for (int i = 0; i <= 16 && !last.startsWith("throws"); i++) {
                int k = i;
                last = ask("out " + p + " " + i, () -> x.out(port, k));
            }
        }
        for (int i = 0; i < 16; i++) {
            int place = i;
            ask("row " + i, () -> x.row(place));
        }
        ask("a run that is LAID", () -> x.run(true));
    }

    /** Two ROWS are of one kind if 0 elements can be copied, so one SHELF gets a ROW to measure by. */
    private void lookAtShelves(int measure) {
        for (int d = 0; d < 8; d++) {
            int shelf = d;
            ask("weight " + d, () -> x.weight(shelf));
            ask("toss " + d, () -> x.toss(shelf));
            String last = "";
            for (int i = 0; i <= 60 && !last.startsWith("throws"); i++) {
                int place = i;
                last = ask("element " + d + " " + i, () -> x.element(shelf, place));
            }
        }
        x.make(measure, 3, 0);
        for (int d = 0; d < 8; d++) {
            int shelf = d;
            ask("is of ints " + d, () -> x.copy(shelf, 0, measure, 0, 0));
        }
        x.keep(measure, 4, 0);
        for (int i = 0; i < 16; i++) {
            int place = i;
            ask("the ROW as told " + i, () -> x.element(measure, place));
        }
    }

    private void dropAll() {
        for (int left = x.count(0); left > 0; left--) {
            x.drop();
        }
    }

    /** An ACT on each kind of PARTS shows whether it is PIPED. */
    private void lookAtStock() {
        dropAll();
        x.constant(1, 8);
        x.reckon(2, 0, 0, 8);
        x.reckon(4, 0, 0, 8);
        x.reckon(5, 0, 0, 8);
        x.touch(0, -1, 8);
        for (int i = 1; i <= 4; i++) {
            int what = i;
            ask("of one ACT each, bound " + i, () -> x.bound(what));
        }
        for (int k = 0; k < 4; k++) {
            int kind = k;
            ask("parts before " + k, () -> x.parts(kind, 1));
            ask("length before " + k, () -> x.length(kind, 1, false));
        }
    }

    private void lookAtFed() {
        for (int p = 0; p < 4; p++) {
            int port = p;
            dropAll();
            for (int i = 0; i < 16; i += 2) {
                x.port(p, -1, 32);
                x.port(0, i, 32);
            }
            ask("a run of INS " + p, () -> x.run(false));
            String last = "";
            for (int i = 0; i < 8 && !last.startsWith("throws"); i++) {
                int k = i;
                last = ask("fed " + p + " " + i, () -> x.out(0, k));
            }
            ask("how many are fed " + p, () -> x.feed(port, 0));
        }
    }
}
