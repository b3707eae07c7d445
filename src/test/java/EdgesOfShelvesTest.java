/** The edges that the document names in promises 27 to 32, each by its own case. */
public final class EdgesOfShelvesTest {
    private static final int LOW = Edge.LOW;
    private static final int HIGH = Edge.HIGH;
    private static final int[] NO_SHELVES = {LOW, -1, 8, HIGH};
    private static final int[] NO_ACTS = {LOW, -2, -1, 16, HIGH};
    /** What Made puts on SHELVES: nothing, ACTS, a ROW of 3 and of 0 ints, of 16 and of 4 longs. */
    private static final int NOTHING = 0;
    private static final int OVER = 1;
    private static final int INTS = 2;
    private static final int LONGS = 3;
    private static final int CONST = 4;
    private static final int NO_INTS = 5;
    private static final int FOUR_LONGS = 6;

    public static void main(String[] args) {
        keepRefusals();
        keepsOnEachShelf();
        keepsActs();
        keepsTicks();
        keepsTheRow();
        makeRefusals();
        makes();
        elements();
        copyRefusals();
        copyRefusalsInOrder();
        copiesBeyondTheEnds();
        copiesToTheEnds();
        copiesAsTheyWere();
        copiesLongs();
        weightRefusals();
        weights();
        tossRefusals();
        tosses();
        Check.end();
    }

    private static void keepRefusals() {
        for (int d : NO_SHELVES) {
            for (int what = 0; what <= 4; what++) {
                int asked = what;
                Edge.refusedAlways("27: SHELF " + d + ", what " + what, x -> x.keep(d, asked, 0), -1);
            }
        }
        for (int what : new int[] {LOW, -1, 2, 5, HIGH}) {
            Edge.refusedAlways("27: what " + what, x -> x.keep(OVER, what, 0), -1);
        }
        for (int k : NO_ACTS) {
            Edge.refusedAlways("27: no ACT " + k, x -> x.keep(INTS, 1, k), -1);
        }
        Edge.refusedAlways("27: one beyond the last ACT", x -> x.keep(INTS, 1, x.count(0)), -1);
        Made[] notLaid = {Made.NEW, Made.UNLAID, Made.RAN_PLAIN};
        for (Made made : notLaid) {
            Edge.refused("27: nothing is laid, SHELF with nothing", made, x -> x.keep(NOTHING, 3, 0), -3);
            Edge.refused("27: nothing is laid, SHELF with a ROW", made, x -> x.keep(INTS, 3, 0), -3);
            Edge.refused("27: -1 is before -3", made, x -> x.keep(8, 3, 0), -1);
        }
        Edge.asked("27: nothing where nothing is", Made.FULL, x -> x.keep(NOTHING, 0, 0), 0);
    }

    private static void keepsOnEachShelf() {
        for (int d = 0; d < 8; d++) {
            int shelf = d;
            GateMaker x = new GateMaker();
            x.constant(5, 8);
            Check.due("27: an ACT on SHELF " + d, x.keep(d, 1, 0), 0);
            for (int e = 0; e < 8; e++) {
                Check.due("27: on that SHELF alone", x.weight(e), e == d ? 8 : -11);
            }
            Check.due("27: the ROW instead", x.keep(d, 4, HIGH), 0);
            Check.due("27: it is no ACT", x.weight(d), -12);
            x.lay();
            Check.due("27: the TICKS instead", x.keep(d, 3, LOW), 0);
            Check.wrongState("27: of one ACT", () -> x.element(shelf, 1));
            Check.due("27: an ACT again", x.keep(d, 1, 0), 0);
            Check.due("27: it is an ACT", x.weight(d), 8);
            Check.due("27: nothing", x.keep(d, 0, LOW), 0);
            Check.due("27: nothing is held", x.weight(d), -11);
        }
    }

    private static void keepsActs() {
        GateMaker x = Made.FULL.make();
        Check.due("27: the first ACT", x.keep(0, 1, 0), 0);
        Check.due("27: the last ACT", x.keep(7, 1, 15), 0);
        Check.due("27: its weight", x.weight(7), 4);
        x.drop();
        x.constant(1, 9);
        Check.due("27: the ACT that was, not its number's", x.weight(7), 4);
        x.keep(7, 1, 15);
        Check.due("27: the one that is", x.weight(7), 9);
    }

    private static void keepsTicks() {
        GateMaker x = Made.FULL.make();
        Check.due("27: TICKS of 16 ACTS", x.keep(0, 3, 0), 0);
        for (int a = 0; a < 16; a++) {
            Check.due("27: TICK of ACT " + a, x.element(0, a), x.tick(a, 0));
        }
        Check.wrongState("27: there are not 17", () -> x.element(0, 16));
        Check.due("27: it is of ints", x.copy(0, 0, INTS, 0, 3), 3);
        GateMaker y = new GateMaker();
        y.constant(1, 8);
        y.lay();
        y.keep(0, 3, 0);
        Check.due("27: TICKS of one ACT", y.element(0, 0), 0);
        Check.wrongState("27: there are not 2", () -> y.element(0, 1));
        y.constant(1, 8);
        Check.due("27: what was kept stays", y.element(0, 0), 0);
    }

    private static void keepsTheRow() {
        GateMaker x = Made.RAN_LAID.make();
        Check.due("27: the ROW", x.keep(0, 4, 0), 0);
        Check.due("27: the first place", x.element(0, 0), 0);
        Check.due("27: as told at first, not behind the run", x.element(0, 3), 0);
        Check.due("27: the last place", x.element(0, 15), -7);
        Check.wrongState("27: it has no place 16", () -> x.element(0, 16));
        x.place(15, 8);
        Check.due("27: as it was told then", x.element(0, 15), -7);
        x.copy(0, 0, 0, 15, 1);
        Check.due("27: a copy there", x.element(0, 15), 0);
        x.keep(0, 4, 0);
        Check.due("27: is none in THE ROW", x.element(0, 15), 8);
    }

    private static void makeRefusals() {
        for (int d : NO_SHELVES) {
            Edge.refusedAlways("28: SHELF " + d, x -> x.make(d, 3, 1), -1);
            Edge.refusedAlways("28: SHELF " + d + ", -1 is before -14", x -> x.make(d, 4, -1), -1);
        }
        for (int what : new int[] {LOW, -1, 0, 1, 2, 5, HIGH}) {
            Edge.refusedAlways("28: what " + what, x -> x.make(OVER, what, 1), -1);
            Edge.refusedAlways("28: what " + what + ", -1 is before -14", x -> x.make(INTS, what, -1), -1);
        }
        for (int what = 3; what <= 4; what++) {
            int good = what;
            for (int n : new int[] {61, 62, HIGH}) {
                Edge.refusedAlways("28: n " + n + ", what " + what, x -> x.make(INTS, good, n), -1);
            }
            for (int n : new int[] {LOW, -2, -1}) {
                Edge.refusedAlways("28: n " + n + ", what " + what, x -> x.make(LONGS, good, n), -14);
            }
        }
    }

    private static void makes() {
        for (int d = 0; d < 8; d++) {
            for (int what = 3; what <= 4; what++) {
                for (int n : new int[] {0, 1, 59, 60}) {
                    GateMaker x = Made.UNLAID.make();
                    String name = "28: " + n + " on SHELF " + d + ", what " + what;
                    int shelf = d;
                    Check.due(name, x.make(d, what, n), 0);
                    for (int i = 0; i < n; i++) {
                        Check.due(name + ", place " + i, x.element(d, i), 0);
                    }
                    Check.wrongState(name + ", one beyond", () -> x.element(shelf, n));
                    int other = (d + 1) % 8;
                    x.make(other, what, 0);
                    Check.due(name + ", of that kind", x.copy(d, 0, other, 0, 0), 0);
                    x.make(other, 7 - what, 0);
                    Check.due(name + ", not of the other", x.copy(d, 0, other, 0, 0), -12);
                }
            }
        }
        GateMaker x = new GateMaker();
        x.place(0, 5);
        x.keep(0, 4, 0);
        x.make(0, 4, 16);
        Check.due("28: all are 0 again", x.element(0, 0), 0);
    }

    private static void elements() {
        for (int d : NO_SHELVES) {
            Edge.wrongArgumentAlways("29: no such SHELF " + d, x -> x.element(d, 0));
            Edge.wrongArgumentAlways("29: no such SHELF, nor place", x -> x.element(d, -1));
        }
        for (Made made : Made.values()) {
            Edge.wrongState("29: nothing is held", made, x -> x.element(NOTHING, 0));
        }
        Edge.wrongState("29: no ROW", Made.FULL, x -> x.element(OVER, 0));
        Edge.wrongState("29: no ROW, but an ACT", Made.FULL, x -> x.element(CONST, 8));
        for (int i : new int[] {LOW, -1, 3, 4, HIGH}) {
            Edge.wrongState("29: ints have no place " + i, Made.FULL, x -> x.element(INTS, i));
        }
        for (int i : new int[] {LOW, -1, 16, HIGH}) {
            Edge.wrongState("29: longs have no place " + i, Made.FULL, x -> x.element(LONGS, i));
        }
        Edge.wrongState("29: a ROW of none has no place 0", Made.FULL, x -> x.element(NO_INTS, 0));
        Edge.wrongState("29: nor -1", Made.FULL, x -> x.element(NO_INTS, -1));
        Edge.asked("29: the first of ints", Made.FULL, x -> x.element(INTS, 0), 0);
        Edge.asked("29: the last of ints", Made.FULL, x -> x.element(INTS, 2), 0);
        Edge.asked("29: the first of longs", Made.FULL, x -> x.element(LONGS, 0), 0);
        Edge.asked("29: the last of longs", Made.FULL, x -> x.element(LONGS, 15), -7);
    }

    private static void copyRefusals() {
        for (int d : NO_SHELVES) {
            Edge.refusedAlways("30: SHELF d " + d, x -> x.copy(d, 0, INTS, 0, 0), -1);
            Edge.refusedAlways("30: SHELF e " + d, x -> x.copy(INTS, 0, d, 0, 0), -1);
            Edge.refusedAlways("30: both", x -> x.copy(d, -1, d, -1, -1), -1);
        }
        Edge.refused("30: nothing on d", Made.FULL, x -> x.copy(NOTHING, 0, INTS, 0, 0), -11);
        Edge.refused("30: nothing on e", Made.FULL, x -> x.copy(INTS, 0, NOTHING, 0, 0), -11);
        Edge.refused("30: nothing on both", Made.FULL, x -> x.copy(NOTHING, 0, NOTHING, 0, 0), -11);
        Edge.refused("30: d is no ROW", Made.FULL, x -> x.copy(OVER, 0, INTS, 0, 0), -12);
        Edge.refused("30: e is no ROW", Made.FULL, x -> x.copy(LONGS, 0, OVER, 0, 0), -12);
        Edge.refused("30: both are ACTS", Made.FULL, x -> x.copy(OVER, 0, CONST, 0, 0), -12);
        Edge.refused("30: an ACT onto itself", Made.FULL, x -> x.copy(OVER, 0, OVER, 0, 0), -12);
        Edge.refused("30: ints to longs", Made.FULL, x -> x.copy(INTS, 0, LONGS, 0, 1), -12);
        Edge.refused("30: longs to ints", Made.FULL, x -> x.copy(LONGS, 0, INTS, 0, 1), -12);
        Edge.refused("30: ints to longs, none", Made.FULL, x -> x.copy(NO_INTS, 0, LONGS, 0, 0), -12);
    }

    private static void copyRefusalsInOrder() {
        Edge.refused("30: -1 of e before -11 of d", Made.FULL, x -> x.copy(NOTHING, 0, 8, 0, 0), -1);
        Edge.refused("30: -1 of d before -12 of e", Made.FULL, x -> x.copy(-1, 0, OVER, 0, 0), -1);
        Edge.refused("30: -11 of d before -12 of e", Made.FULL, x -> x.copy(NOTHING, 0, OVER, 0, 0), -11);
        Edge.refused("30: -11 of e before -12 of d", Made.FULL, x -> x.copy(OVER, 0, NOTHING, 0, 0), -11);
        Edge.refused("30: -11 before -13", Made.FULL, x -> x.copy(NOTHING, -1, INTS, -1, -1), -11);
        Edge.refused("30: -12 before -13, an ACT", Made.FULL, x -> x.copy(OVER, -1, INTS, -1, -1), -12);
        Edge.refused("30: -12 before -13, kinds", Made.FULL, x -> x.copy(LONGS, 17, INTS, 4, 1), -12);
    }

    /** From 16 longs to 4 longs. */
    private static void copiesBeyondTheEnds() {
        int[][] beyond = {
            {0, 0, -1}, {-1, 0, 1}, {0, -1, 1}, {-1, 0, 0}, {0, -1, 0}, {0, 0, 5}, {16, 0, 1}, {15, 0, 2},
            {13, 0, 4}, {0, 4, 1}, {0, 3, 2}, {0, 1, 4}, {17, 0, 0}, {0, 5, 0}, {17, 5, 0},
            {HIGH, 0, 1}, {0, HIGH, 1}, {0, 0, HIGH}, {HIGH, HIGH, HIGH}, {1, 1, HIGH}, {HIGH, 0, 0},
            {0, HIGH, 0}, {LOW, 0, 1}, {0, LOW, 1}, {0, 0, LOW}, {LOW, LOW, LOW}, {16, 4, -1}, {1, 1, -1},
        };
        for (int[] at : beyond) {
            Edge.refused("30: from " + at[0] + " to " + at[1] + ", n " + at[2], Made.FULL,
                    x -> x.copy(LONGS, at[0], FOUR_LONGS, at[1], at[2]), -13);
        }
        Edge.refused("30: beyond the end of none", Made.FULL, x -> x.copy(INTS, 0, NO_INTS, 0, 1), -13);
        Edge.refused("30: from none", Made.FULL, x -> x.copy(NO_INTS, 0, INTS, 0, 1), -13);
        Edge.refused("30: onto itself, beyond", Made.FULL, x -> x.copy(LONGS, 0, LONGS, 1, 16), -13);
    }

    private static void copiesToTheEnds() {
        int[][] good = {{0, 0, 4}, {12, 0, 4}, {15, 3, 1}, {0, 3, 1}, {15, 0, 1}, {14, 2, 2}};
        for (int[] at : good) {
            GateMaker x = Made.FULL.make();
            String name = "30: from " + at[0] + " to " + at[1] + ", n " + at[2];
            Check.due(name, x.copy(LONGS, at[0], FOUR_LONGS, at[1], at[2]), at[2]);
            for (int i = 0; i < 4; i++) {
                boolean copied = i >= at[1] && i < at[1] + at[2];
                long due = copied ? x.element(LONGS, at[0] + i - at[1]) : 0;
                Check.due(name + ": place " + i, x.element(FOUR_LONGS, i), due);
            }
        }
        Edge.asked("30: none, from the end to the end", Made.FULL, x -> x.copy(LONGS, 16, FOUR_LONGS, 4, 0), 0);
        Edge.asked("30: none, at the start", Made.FULL, x -> x.copy(LONGS, 0, FOUR_LONGS, 0, 0), 0);
        Edge.asked("30: none of none", Made.FULL, x -> x.copy(NO_INTS, 0, NO_INTS, 0, 0), 0);
        Edge.asked("30: all onto itself", Made.FULL, x -> x.copy(LONGS, 0, LONGS, 0, 16), 16);
    }

    private static GateMaker withNumbers() {
        GateMaker x = new GateMaker();
        for (int i = 0; i < 16; i++) {
            x.place(i, 100 + i);
        }
        x.keep(0, 4, 0);
        return x;
    }

    private static void copiesAsTheyWere() {
        for (int from = 0; from <= 2; from += 2) {
            GateMaker x = withNumbers();
            int to = 2 - from;
            Check.due("30: onto itself, from " + from, x.copy(0, from, 0, to, 14), 14);
            for (int i = 0; i < 16; i++) {
                int due = i >= to && i < to + 14 ? 100 + i - to + from : 100 + i;
                Check.due("30: as they all were before, place " + i, x.element(0, i), due);
            }
        }
        GateMaker x = withNumbers();
        x.keep(1, 4, 0);
        x.copy(0, 0, 1, 8, 8);
        Check.due("30: what they came from stays", x.element(0, 8), 108);
        Check.due("30: what is before them stays", x.element(1, 7), 107);
        Check.due("30: the first", x.element(1, 8), 100);
        Check.due("30: the last", x.element(1, 15), 107);
    }

    private static void copiesLongs() {
        GateMaker x = new GateMaker();
        x.place(0, Long.MIN_VALUE);
        x.place(1, Long.MAX_VALUE);
        x.keep(0, 4, 0);
        x.make(1, 4, 60);
        Check.due("30: to the last places of 60", x.copy(0, 0, 1, 58, 2), 2);
        Check.due("30: the least long", x.element(1, 58), Long.MIN_VALUE);
        Check.due("30: the greatest long", x.element(1, 59), Long.MAX_VALUE);
        Check.due("30: one beyond 60", x.copy(0, 0, 1, 59, 2), -13);
    }

    private static void weightRefusals() {
        for (int d : NO_SHELVES) {
            Edge.refusedAlways("31: SHELF " + d, x -> x.weight(d), -1);
        }
        for (Made made : Made.values()) {
            Edge.refused("31: nothing is held", made, x -> x.weight(NOTHING), -11);
        }
        for (int row : new int[] {INTS, LONGS, NO_INTS, FOUR_LONGS}) {
            Edge.refused("31: a ROW is no ACT, SHELF " + row, Made.FULL, x -> x.weight(row), -12);
        }
        Edge.asked("31: an ACT on the last SHELF", Made.FULL, x -> x.weight(7), 1015);
    }

    /** One ACT of each OP: 10 for each of its operands, and what is more. */
    private static void weights() {
        int[] operands = {0, 0, 2, 2, 2, 2, 2, 3, 1, 2, 1};
        int[] more = {0, 1007, 0, 0, 100, 100, 0, 0, 7, 7, 1007};
        for (int width = 1; width <= 32; width += 31) {
            GateMaker x = ofEachOp(width);
            for (int op = 0; op <= 10; op++) {
                x.keep(5, 1, op);
                int due = width + 10 * operands[op] + more[op];
                Check.due("31: OP " + op + ", WIDTH " + width, x.weight(5), op == 5 ? 2 * due : due);
            }
        }
    }

    private static GateMaker ofEachOp(int width) {
        GateMaker x = new GateMaker();
        x.constant(1, width);
        x.port(0, -1, width);
        for (int op = 2; op <= 6; op++) {
            x.reckon(op, 0, 0, width);
        }
        x.pick(0, 0, 0, width);
        x.touch(0, -1, width);
        x.touch(0, 0, width);
        x.port(0, 0, width);
        return x;
    }

    private static void tossRefusals() {
        for (int d : NO_SHELVES) {
            Edge.refusedAlways("32: SHELF " + d, x -> x.toss(d), -1);
        }
        for (Made made : Made.values()) {
            Edge.refused("32: nothing is held", made, x -> x.toss(NOTHING), -11);
        }
        for (int row : new int[] {INTS, LONGS, NO_INTS, FOUR_LONGS}) {
            Edge.refused("32: a ROW is no ACT, SHELF " + row, Made.FULL, x -> x.toss(row), -12);
        }
        Edge.refused("32: a CONST can't FAIL", Made.FULL, x -> x.toss(CONST), -15);
        Edge.asked("32: an OVER", Made.FULL, x -> x.toss(OVER), 1);
        Edge.asked("32: an IN on the last SHELF", Made.FULL, x -> x.toss(7), 3);
    }

    private static void tosses() {
        int[] due = {-15, 3, -15, -15, -15, 1, -15, -15, 2, 2, -15};
        GateMaker x = ofEachOp(8);
        for (int op = 0; op <= 10; op++) {
            x.keep(7, 1, op);
            Check.due("32: OP " + op, x.toss(7), due[op]);
            Check.due("32: OP " + op + " once more", x.toss(7), due[op]);
        }
        Check.due("32: a FAILURE that is tossed is none of a run", x.told(0), -3);
    }
}
