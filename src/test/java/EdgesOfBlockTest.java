/** The edges that the document names in promises 1 to 7, 12 to 14 and 26, each by its own case. */
public final class EdgesOfBlockTest {
    private static final int LOW = Edge.LOW;
    private static final int HIGH = Edge.HIGH;
    private static final int[] NO_WIDTHS = {LOW, -1, 0, 33, 64, HIGH};
    private static final int[] NO_ACTS = {LOW, -3, -2, 16, 17, HIGH};

    private interface Maker {
        int make(GateMaker x, int width);
    }

    public static void main(String[] args) {
        newObject();
        newObjectsAreApart();
        constants();
        constantsAreCut();
        ports();
        reckons();
        picks();
        touches();
        drops();
        acts();
        ops();
        actsHaveNone();
        bits();
        spanRefusals();
        spansOfSums();
        spansOfTwoRanges();
        spansOfProducts();
        spansOfQuotients();
        spansOfBelow();
        spansOfBelowInOneBit();
        spansOfPick();
        spansThatPass();
        spansThatAreWide();
        needsRefusals();
        needsOfOperands();
        needsOfPlaces();
        needsOfEachPair();
        needsOfPorts();
        needsTheGreatest();
        counts();
        Check.end();
    }

    private static void newObject() {
        Edge.refused("1: no ACTS: lay", Made.NEW, x -> x.lay(), -2);
        Edge.refused("1: no ACTS: run", Made.NEW, x -> x.run(false), -2);
        Edge.refused("1: no ACTS: drop", Made.NEW, x -> x.drop(), -2);
        Edge.asked("1: no ACTS: count", Made.NEW, x -> x.count(0), 0);
        Edge.asked("1: no operands", Made.NEW, x -> x.count(1), 0);
        Edge.asked("1: nothing was told for PORTS", Made.NEW, x -> x.count(2), 0);
        GateMaker x = new GateMaker();
        x.keep(0, 4, 0);
        for (int i = 0; i < 16; i++) {
            Check.due("1: the ROW's number " + i, x.element(0, i), 0);
        }
        Check.wrongState("1: the ROW has no number 16", () -> x.element(0, 16));
        for (int port = 0; port < 4; port++) {
            GateMaker y = new GateMaker();
            y.port(port, -1, 8);
            Check.due("1: nothing was told for PORT " + port, y.run(false), 3);
        }
        int[] lengths = {1, 2, 4, 1};
        for (int kind = 0; kind < 4; kind++) {
            GateMaker y = new GateMaker();
            Check.due("1: at first PARTS of kind " + kind, y.parts(kind, 1), 1);
            Check.due("1: at first LENGTH of kind " + kind, y.length(kind, 1, false), lengths[kind]);
        }
        for (int d = 1; d < 8; d++) {
            Check.due("1: SHELF " + d + " holds nothing", x.weight(d), -11);
        }
    }

    private static void newObjectsAreApart() {
        GateMaker old = Made.FULL.make();
        GateMaker x = new GateMaker();
        Check.due("1: 16 ACTS of another object", old.count(0), 16);
        Check.due("1: none of the new one", x.count(0), 0);
        Check.due("1: nor what was told", x.count(2), 0);
        Check.due("1: nor PARTS", x.count(4), 1);
        Check.due("1: nor a SHELF", x.weight(1), -11);
        x.keep(0, 4, 0);
        Check.due("1: nor the ROW", x.element(0, 15), 0);
    }

    /** What all that make an ACT share: WIDTHS 1 and 32, the 16th ACT, and none behind it. */
    private static void makes(String promise, Maker maker) {
        for (int width : NO_WIDTHS) {
            Edge.refusedAlways(promise + ": WIDTH " + width, x -> maker.make(x, width), -1);
        }
        for (int width : new int[] {1, 32}) {
            GateMaker x = new GateMaker();
            x.constant(1, 8);
            Check.due(promise + ": WIDTH " + width + " is good", maker.make(x, width), 1);
            Check.due(promise + ": it is the ACT's", x.act(1, 1), width);
        }
        GateMaker x = Made.FULL.make();
        x.drop();
        Check.due(promise + ": the 16th ACT", maker.make(x, 8), 15);
        Check.due(promise + ": there is no 17th", maker.make(x, 8), -2);
        Edge.refused(promise + ": there are 16", Made.FULL, y -> maker.make(y, 8), -2);
        Edge.refused(promise + ": -1 is before -2", Made.FULL, y -> maker.make(y, 33), -1);
    }

    private static void constants() {
        makes("2", (x, width) -> x.constant(5, width));
        GateMaker x = new GateMaker();
        for (int i = 0; i < 16; i++) {
            Check.due("2: as they come, number " + i, x.constant(i, 8), i);
        }
    }

    private static void constantsAreCut() {
        for (int width = 1; width <= 32; width++) {
            long half = 1L << (width - 1);
            long[][] due = {
                {0, 0}, {-1, -1}, {half - 1, half - 1}, {half, -half}, {-half, -half},
                {-half - 1, half - 1}, {2 * half - 1, -1}, {2 * half, 0}, {-2 * half, 0},
                {Long.MAX_VALUE, -1}, {Long.MIN_VALUE, 0}, {Long.MIN_VALUE + half - 1, half - 1},
                {Long.MAX_VALUE - half, half - 1},
            };
            for (long[] pair : due) {
                GateMaker x = new GateMaker();
                x.constant(pair[0], width);
                x.port(0, 0, 32);
                x.run(false);
                String what = "2: " + pair[0] + " in " + width + " bits";
                Check.due(what, x.out(0, 0), pair[1]);
                Check.due(what + ", its SPAN", x.span(0, false), pair[1]);
            }
        }
    }

    private static void ports() {
        makes("3", (x, width) -> x.port(0, -1, width));
        makes("3", (x, width) -> x.port(3, 0, width));
        for (int port : new int[] {LOW, -1, 4, HIGH}) {
            Edge.refusedAlways("3: an IN of PORT " + port, x -> x.port(port, -1, 8), -1);
            Edge.refusedAlways("3: an OUT of PORT " + port, x -> x.port(port, 0, 8), -1);
        }
        for (int x : NO_ACTS) {
            Edge.refusedAlways("3: ACT " + x, y -> y.port(0, x, 8), -1);
        }
        Edge.refusedAlways("3: the ACT itself", x -> x.port(0, x.count(0), 8), -1);
        for (int port = 0; port < 4; port += 3) {
            GateMaker x = new GateMaker();
            Check.due("3: IN is good without ACTS", x.port(port, -1, 8), 0);
            Check.due("3: OUT of ACT 0, the one before it", x.port(port, 0, 8), 1);
            Check.due("3: PORT of the IN", x.act(0, 5), port);
            Check.due("3: PORT of the OUT", x.act(1, 5), port);
        }
    }

    private static void reckons() {
        for (int op = 2; op <= 6; op++) {
            int good = op;
            makes("4", (x, width) -> x.reckon(good, 0, 0, width));
        }
        for (int op : new int[] {LOW, -1, 0, 1, 7, 8, 9, 10, 11, HIGH}) {
            Edge.refusedAlways("4: OP " + op, x -> x.reckon(op, 0, 0, 8), -1);
        }
        Edge.refusedAlways("4: x is no ACT: -1", x -> x.reckon(2, -1, 0, 8), -1);
        Edge.refusedAlways("4: y is no ACT: -1", x -> x.reckon(2, 0, -1, 8), -1);
        for (int none : NO_ACTS) {
            Edge.refusedAlways("4: x is no ACT: " + none, x -> x.reckon(2, none, 0, 8), -1);
            Edge.refusedAlways("4: y is no ACT: " + none, x -> x.reckon(2, 0, none, 8), -1);
        }
        Edge.refusedAlways("4: x is the ACT itself", x -> x.reckon(6, x.count(0), 0, 8), -1);
        Edge.refusedAlways("4: y is the ACT itself", x -> x.reckon(6, 0, x.count(0), 8), -1);
        GateMaker x = Made.FULL.make();
        x.drop();
        Check.due("4: x and y are the ACTS just before it", x.reckon(2, 14, 14, 8), 15);
    }

    private static void picks() {
        makes("5", (x, width) -> x.pick(0, 0, 0, width));
        Edge.refusedAlways("5: x is no ACT: -1", x -> x.pick(-1, 0, 0, 8), -1);
        Edge.refusedAlways("5: y is no ACT: -1", x -> x.pick(0, -1, 0, 8), -1);
        Edge.refusedAlways("5: z is no ACT: -1", x -> x.pick(0, 0, -1, 8), -1);
        for (int none : NO_ACTS) {
            Edge.refusedAlways("5: x is no ACT: " + none, x -> x.pick(none, 0, 0, 8), -1);
            Edge.refusedAlways("5: y is no ACT: " + none, x -> x.pick(0, none, 0, 8), -1);
            Edge.refusedAlways("5: z is no ACT: " + none, x -> x.pick(0, 0, none, 8), -1);
        }
        Edge.refusedAlways("5: x is the ACT itself", x -> x.pick(x.count(0), 0, 0, 8), -1);
        Edge.refusedAlways("5: y is the ACT itself", x -> x.pick(0, x.count(0), 0, 8), -1);
        Edge.refusedAlways("5: z is the ACT itself", x -> x.pick(0, 0, x.count(0), 8), -1);
        GateMaker x = Made.FULL.make();
        x.drop();
        Check.due("5: all are the ACT just before it", x.pick(14, 14, 14, 8), 15);
    }

    private static void touches() {
        makes("6", (x, width) -> x.touch(0, -1, width));
        makes("6", (x, width) -> x.touch(0, 0, width));
        Edge.refusedAlways("6: a FETCH, x is no ACT: -1", x -> x.touch(-1, -1, 8), -1);
        Edge.refusedAlways("6: a STORE, x is no ACT: -1", x -> x.touch(-1, 0, 8), -1);
        for (int none : NO_ACTS) {
            Edge.refusedAlways("6: a FETCH, x is no ACT: " + none, x -> x.touch(none, -1, 8), -1);
            Edge.refusedAlways("6: y is no ACT: " + none, x -> x.touch(0, none, 8), -1);
        }
        Edge.refusedAlways("6: x is the ACT itself", x -> x.touch(x.count(0), -1, 8), -1);
        Edge.refusedAlways("6: y is the ACT itself", x -> x.touch(0, x.count(0), 8), -1);
        GateMaker x = Made.FULL.make();
        x.drop();
        Check.due("6: x and y are the ACT just before it", x.touch(14, 14, 8), 15);
    }

    private static void drops() {
        Edge.refused("7: there is none", Made.NEW, x -> x.drop(), -2);
        GateMaker x = Made.FULL.make();
        for (int left = 15; left >= 0; left--) {
            Check.due("7: there are " + left, x.drop(), left);
            Check.due("7: the last ACT is gone", x.act(left, 0), -1);
        }
        Check.due("7: there is none any more", x.drop(), -2);
        Check.due("7: still no ACTS", x.count(0), 0);
        Check.due("7: what was told for PORTS stays", x.count(2), 3);
        Check.due("7: the first number again", x.constant(1, 8), 0);
        GateMaker y = Made.RAN_LAID.make();
        y.drop();
        Check.due("7: what was laid is gone", y.registers(), -3);
        Check.due("7: the run is gone", y.told(0), -3);
    }

    private static void acts() {
        for (int what : new int[] {LOW, -1, 9, HIGH}) {
            Edge.refusedAlways("12: what " + what, x -> x.act(0, what), -1);
        }
        for (int act : new int[] {LOW, -2, -1, 16, HIGH}) {
            Edge.refusedAlways("12: ACT " + act, x -> x.act(act, 0), -1);
        }
        Edge.refusedAlways("12: one beyond the last ACT", x -> x.act(x.count(0), 1), -1);
        Edge.asked("12: the first ACT", Made.FULL, x -> x.act(0, 1), 8);
        Edge.asked("12: the last ACT", Made.FULL, x -> x.act(15, 1), 4);
        Edge.asked("12: the first what", Made.FULL, x -> x.act(5, 0), 10);
        Edge.asked("12: the last what", Made.FULL, x -> x.act(4, 8), 3);
    }

    private static void ops() {
        int[] due = {0, 1, 4, 5, 9, 10, 8, 7, 2, 3, 6, 1, 10, 9, 10, 0};
        for (int a = 0; a < due.length; a++) {
            int act = a;
            Edge.asked("12: OP of ACT " + a, Made.FULL, x -> x.act(act, 0), due[a]);
        }
    }

    private static void actsHaveNone() {
        Edge.asked("12: a CONST has no x", Made.FULL, x -> x.act(0, 2), -2);
        Edge.asked("12: an IN has no x", Made.FULL, x -> x.act(1, 2), -2);
        Edge.asked("12: an OUT has an x, ACT 3", Made.FULL, x -> x.act(5, 2), 3);
        Edge.asked("12: an OUT has no y", Made.FULL, x -> x.act(5, 3), -2);
        Edge.asked("12: a FETCH has an x, ACT 0", Made.FULL, x -> x.act(6, 2), 0);
        Edge.asked("12: a FETCH has no y", Made.FULL, x -> x.act(6, 3), -2);
        Edge.asked("12: a STORE has a y", Made.FULL, x -> x.act(4, 3), 3);
        Edge.asked("12: a STORE has no z", Made.FULL, x -> x.act(4, 4), -2);
        Edge.asked("12: a TIMES has no z", Made.FULL, x -> x.act(2, 4), -2);
        Edge.asked("12: a PICK has a z", Made.FULL, x -> x.act(7, 4), 3);
        Edge.asked("12: an IN has a PORT, 0", Made.FULL, x -> x.act(1, 5), 0);
        Edge.asked("12: a TIMES has no PORT", Made.FULL, x -> x.act(2, 5), -2);
        Edge.asked("12: a CONST has LENGTH 0", Made.FULL, x -> x.act(0, 6), 0);
        Edge.asked("12: an IN has LENGTH 1", Made.FULL, x -> x.act(1, 6), 1);
        Edge.asked("12: a PICK has LENGTH 1", Made.FULL, x -> x.act(7, 6), 1);
        Edge.asked("12: an OUT has LENGTH 1", Made.FULL, x -> x.act(5, 6), 1);
        Edge.asked("12: an OVER has a LENGTH as told", Made.FULL, x -> x.act(3, 6), 3);
        Edge.asked("12: an IN has no PART", Made.FULL, x -> x.act(1, 8), -2);
        Edge.asked("12: an OUT has no PART", Made.FULL, x -> x.act(5, 8), -2);
        Edge.asked("12: a PICK has no PART", Made.FULL, x -> x.act(7, 8), -2);
        Edge.asked("12: a CONST has no PART", Made.FULL, x -> x.act(0, 8), -2);
        Edge.asked("12: an ADD is on an ADDER", Made.FULL, x -> x.act(8, 8), 0);
        Edge.asked("12: a LESS too", Made.FULL, x -> x.act(9, 8), 0);
        Edge.asked("12: a BELOW too", Made.FULL, x -> x.act(10, 8), 0);
        Edge.asked("12: a TIMES is on kind 1", Made.FULL, x -> x.act(2, 8), 1);
        Edge.asked("12: an OVER is on kind 2", Made.FULL, x -> x.act(3, 8), 2);
        Edge.asked("12: a FETCH is on a DOOR", Made.FULL, x -> x.act(6, 8), 3);
    }

    private static void bits() {
        for (int n = 1; n <= 32; n++) {
            long half = 1L << (n - 1);
            bitsOf(half - 1, n);
            bitsOf(-half, n);
            if (n < 32) {
                bitsOf(half, n + 1);
                bitsOf(-half - 1, n + 1);
            }
            GateMaker x = new GateMaker();
            x.port(0, -1, n);
            Check.due("12: BITS of all in WIDTH " + n, x.act(0, 7), n);
        }
        GateMaker x = new GateMaker();
        int in = x.port(0, -1, 3);
        Check.due("12: BITS, the least number asks for more", x.act(x.reckon(2, in, x.constant(-1, 8), 8), 7), 4);
        Check.due("12: BITS, the greatest asks for more", x.act(x.reckon(2, in, x.constant(1, 8), 8), 7), 4);
        Check.due("12: BITS, no fewer than 1", x.act(x.reckon(6, in, x.constant(-4, 8), 8), 7), 1);
    }

    private static void bitsOf(long number, int due) {
        GateMaker x = new GateMaker();
        x.constant(number, 32);
        Check.due("12: BITS of " + number, x.act(0, 7), due);
    }

    private static void spanRefusals() {
        for (int act : new int[] {LOW, -2, -1, 16, HIGH}) {
            Edge.wrongArgumentAlways("13: no such ACT, least: " + act, x -> x.span(act, false));
            Edge.wrongArgumentAlways("13: no such ACT, greatest: " + act, x -> x.span(act, true));
        }
        Edge.wrongArgumentAlways("13: one beyond the last ACT", x -> x.span(x.count(0), true));
        Edge.asked("13: the first ACT", Made.FULL, x -> x.span(0, false), 3);
        Edge.asked("13: the last ACT", Made.FULL, x -> x.span(15, true), 1);
    }

    private static void span(String what, GateMaker x, int act, long least, long greatest) {
        Check.due("13: " + what + ": least", x.span(act, false), least);
        Check.due("13: " + what + ": greatest", x.span(act, true), greatest);
    }

    /** An IN of 8 bits, -128 .. 127, and a CONST, in 9 bits: WIDE is -256 .. 255. */
    private static void spansOfSums() {
        sums("ADD to the greatest of WIDE", 2, true, 128, 0, 255);
        sums("ADD beyond WIDE by one", 2, true, 129, -256, 255);
        sums("ADD to the least of WIDE", 2, true, -128, -256, -1);
        sums("ADD below WIDE by one", 2, true, -129, -256, 255);
        sums("LESS to the greatest of WIDE", 3, true, -128, 0, 255);
        sums("LESS beyond WIDE by one", 3, true, -129, -256, 255);
        sums("LESS to the least of WIDE", 3, true, 128, -256, -1);
        sums("LESS below WIDE by one", 3, true, 129, -256, 255);
        sums("LESS from a CONST, to the greatest", 3, false, 127, 0, 255);
        sums("LESS from a CONST, beyond by one", 3, false, 128, -256, 255);
        sums("LESS from a CONST, to the least", 3, false, -129, -256, -1);
        sums("LESS from a CONST, below by one", 3, false, -130, -256, 255);
    }

    private static void sums(String what, int op, boolean inFirst, long number, long least, long greatest) {
        GateMaker x = new GateMaker();
        x.port(0, -1, 8);
        x.constant(number, 16);
        span(what, x, inFirst ? x.reckon(op, 0, 1, 9) : x.reckon(op, 1, 0, 9), least, greatest);
    }

    /** All four ends are unlike: -2 .. 1, 8 .. 11 and -12 .. -9. */
    private static void spansOfTwoRanges() {
        GateMaker x = new GateMaker();
        int about = x.port(0, -1, 2);
        int above = x.reckon(2, about, x.constant(10, 8), 8);
        int below = x.reckon(2, about, x.constant(-10, 8), 8);
        span("ADD, two ranges", x, x.reckon(2, about, above, 8), 6, 12);
        span("LESS, two ranges", x, x.reckon(3, about, above, 8), -13, -7);
        span("TIMES, both above 0", x, x.reckon(4, above, above, 16), 64, 121);
        span("TIMES, above and below 0", x, x.reckon(4, above, below, 16), -132, -72);
        span("TIMES, below and above 0", x, x.reckon(4, below, above, 16), -132, -72);
        span("TIMES, both below 0", x, x.reckon(4, below, below, 16), 81, 144);
        span("TIMES, about 0 and above", x, x.reckon(4, about, above, 16), -22, 11);
        span("TIMES, below and about 0", x, x.reckon(4, below, about, 16), -12, 24);
        span("PICK, of two ranges", x, x.pick(about, above, below, 8), -12, 11);
        span("PICK, of two ranges, the other way", x, x.pick(about, below, above, 8), -12, 11);
    }

    /** A TIMES of one SPAN of two ends and a CONST; WIDE of 4 bits is -8 .. 7. */
    private static void spansOfProducts() {
        products("the greatest of WIDE", 1, 7, 4, 7, 7);
        products("beyond WIDE by one", 2, 4, 4, -8, 7);
        products("the least of WIDE", -2, 4, 4, -8, -8);
        products("below WIDE by one", -3, 3, 4, -8, 7);
        products("by 0", 0, -8, 4, 0, 0);
        products("two least of 32 bits", -(1L << 31), -(1L << 31), 32, -(1L << 31), (1L << 31) - 1);
        GateMaker x = new GateMaker();
        int in = x.port(0, -1, 2);
        span("TIMES, the product of the two least is the greatest", x, x.reckon(4, in, in, 4), -2, 4);
        span("TIMES, that is beyond 3 bits by one", x, x.reckon(4, in, in, 3), -4, 3);
        int below = x.constant(-3, 8);
        span("TIMES, x's least and y", x, x.reckon(4, in, below, 8), -3, 6);
        span("TIMES, y's least and x", x, x.reckon(4, below, in, 8), -3, 6);
        int above = x.constant(4, 8);
        span("TIMES, to the least of WIDE", x, x.reckon(4, in, above, 4), -8, 4);
        int far = x.pick(in, x.constant(1L << 31, 32), x.constant(0, 1), 32);
        span("TIMES, only the two least are beyond 32 bits", x, x.reckon(4, far, far, 32), -(1L << 31), (1L << 31) - 1);
    }

    private static void products(String what, long a, long b, int width, long least, long greatest) {
        GateMaker x = new GateMaker();
        x.constant(a, 32);
        x.constant(b, 32);
        span("TIMES, " + what, x, x.reckon(4, 0, 1, width), least, greatest);
        span("TIMES the other way, " + what, x, x.reckon(4, 1, 0, width), least, greatest);
    }

    private static void spansOfQuotients() {
        GateMaker x = new GateMaker();
        int nought = x.constant(0, 8);
        int seven = x.constant(7, 8);
        int eight = x.constant(-8, 8);
        int in = x.port(0, -1, 4);
        span("OVER, m is 0", x, x.reckon(5, nought, in, 4), 0, 0);
        span("OVER, m is the greatest of WIDE", x, x.reckon(5, seven, in, 4), -7, 7);
        span("OVER, m is beyond WIDE by one", x, x.reckon(5, eight, in, 4), -8, 7);
        span("OVER, of an end below 0", x, x.reckon(5, eight, seven, 5), -8, 8);
        span("OVER, the least has the greatest size", x, x.reckon(5, in, nought, 8), -8, 8);
        int more = x.reckon(2, in, seven, 8);
        span("OVER, the greatest has the greatest size", x, x.reckon(5, more, in, 8), -14, 14);
        int far = x.constant(1L << 31, 32);
        span("OVER, the least of 32 bits", x, x.reckon(5, far, in, 32), -(1L << 31), (1L << 31) - 1);
    }

    /** An IN of 2 bits is -2 .. 1. */
    private static void spansOfBelow() {
        below("x's greatest is below y's least by one", true, 2, 1, 1);
        below("x's greatest is y's least", true, 1, 0, 1);
        below("x's least is below y's greatest by one", true, -1, 0, 1);
        below("x's least is y's greatest", true, -2, 0, 0);
        below("x's least is above y's greatest", true, -3, 0, 0);
        below("of a CONST: below by one", false, -3, 1, 1);
        below("of a CONST: x's greatest is y's least", false, -2, 0, 1);
        below("of a CONST: x's least is below y's greatest by one", false, 0, 0, 1);
        below("of a CONST: x's least is y's greatest", false, 1, 0, 0);
        GateMaker x = new GateMaker();
        int in = x.port(0, -1, 2);
        span("BELOW, of one ACT twice", x, x.reckon(6, in, in, 8), 0, 1);
    }

    private static void below(String what, boolean inFirst, long number, long least, long greatest) {
        GateMaker x = new GateMaker();
        x.port(0, -1, 2);
        x.constant(number, 8);
        int act = inFirst ? x.reckon(6, 0, 1, 2) : x.reckon(6, 1, 0, 2);
        span("BELOW, " + what, x, act, least, greatest);
    }

    private static void spansOfBelowInOneBit() {
        GateMaker x = new GateMaker();
        int in = x.port(0, -1, 2);
        int one = x.constant(1, 8);
        int two = x.constant(2, 8);
        span("BELOW in one bit: 1 .. 1 is WIDE", x, x.reckon(6, one, two, 1), -1, 0);
        span("BELOW in one bit: 0 .. 1 is WIDE", x, x.reckon(6, in, one, 1), -1, 0);
        span("BELOW in one bit: 0 .. 0 stays", x, x.reckon(6, two, one, 1), 0, 0);
        span("BELOW in two bits: 1 .. 1 stays", x, x.reckon(6, one, two, 2), 1, 1);
    }

    private static void spansOfPick() {
        GateMaker x = new GateMaker();
        int y = x.constant(-5, 8);
        int z = x.constant(9, 8);
        int nought = x.constant(0, 8);
        int one = x.constant(1, 8);
        int less = x.constant(-1, 8);
        int toNought = x.port(0, -1, 1);
        int fromNought = x.reckon(3, nought, toNought, 8);
        span("PICK, x's is 0 .. 0", x, x.pick(nought, y, z, 8), 9, 9);
        span("PICK, x's is 1 .. 1", x, x.pick(one, y, z, 8), -5, -5);
        span("PICK, x's is -1 .. -1", x, x.pick(less, y, z, 8), -5, -5);
        span("PICK, x's is -1 .. 0", x, x.pick(toNought, y, z, 8), -5, 9);
        span("PICK, x's is 0 .. 1", x, x.pick(fromNought, y, z, 8), -5, 9);
        span("PICK, the other way", x, x.pick(fromNought, z, y, 8), -5, 9);
        int above = x.reckon(2, fromNought, one, 8);
        span("PICK, x's is 1 .. 2", x, x.pick(above, y, z, 8), -5, -5);
        x.drop();
        int below = x.reckon(2, toNought, less, 8);
        span("PICK, x's is -2 .. -1", x, x.pick(below, y, z, 8), -5, -5);
        x.drop();
        span("PICK, one beyond WIDE", x, x.pick(toNought, y, z, 4), -8, 7);
        x.drop();
        span("PICK, the one beyond WIDE is not picked", x, x.pick(one, y, z, 4), -5, -5);
    }

    /** STORE has y's and OUT x's SPAN, as long as it is in WIDE: of 4 bits that is -8 .. 7. */
    private static void spansThatPass() {
        GateMaker x = new GateMaker();
        int in = x.port(0, -1, 4);
        int most = x.constant(7, 8);
        int more = x.constant(8, 8);
        int past = x.constant(-9, 8);
        span("STORE, y's", x, x.touch(more, in, 4), -8, 7);
        span("STORE, to the greatest of WIDE", x, x.touch(in, most, 4), 7, 7);
        span("STORE, beyond WIDE by one", x, x.touch(in, more, 4), -8, 7);
        span("STORE, below WIDE by one", x, x.touch(in, past, 4), -8, 7);
        span("STORE, in one bit more", x, x.touch(in, past, 5), -9, -9);
        span("OUT, x's", x, x.port(0, in, 4), -8, 7);
        span("OUT, to the greatest of WIDE", x, x.port(0, most, 4), 7, 7);
        span("OUT, beyond WIDE by one", x, x.port(0, more, 4), -8, 7);
        span("OUT, below WIDE by one", x, x.port(0, past, 4), -8, 7);
        span("OUT, in one bit more", x, x.port(0, past, 5), -9, -9);
    }

    private static void spansThatAreWide() {
        for (int width = 1; width <= 32; width++) {
            long half = 1L << (width - 1);
            GateMaker x = new GateMaker();
            x.constant(1, 8);
            span("IN of WIDTH " + width, x, x.port(0, -1, width), -half, half - 1);
            span("FETCH of WIDTH " + width, x, x.touch(0, -1, width), -half, half - 1);
        }
    }

    private static void needsRefusals() {
        Edge.refused("14: no such ACTS", Made.NEW, x -> x.needs(0, 1), -1);
        for (int none : new int[] {LOW, -2, -1, 16, HIGH}) {
            Edge.refusedAlways("14: no ACT a: " + none, x -> x.needs(none, 5), -1);
            Edge.refusedAlways("14: no ACT b: " + none, x -> x.needs(0, none), -1);
        }
        Edge.refusedAlways("14: b is one beyond the last", x -> x.needs(0, x.count(0)), -1);
        Edge.refusedAlways("14: a is b", x -> x.needs(3, 3), -1);
        Edge.refusedAlways("14: a is behind b by one", x -> x.needs(4, 3), -1);
        Edge.asked("14: a is before b by one", Made.FULL, x -> x.needs(2, 3), 2);
        Edge.asked("14: the first and the last ACT", Made.FULL, x -> x.needs(0, 15), 0);
        Edge.asked("14: it needs no LAYING", Made.UNLAID, x -> x.needs(1, 2), 1);
    }

    private static void needsOfOperands() {
        for (int length = 1; length <= 8; length += 7) {
            GateMaker x = new GateMaker();
            for (int kind = 0; kind < 4; kind++) {
                x.length(kind, length, kind % 2 == 0);
            }
            int[] lengths = {0, 1, length, length, length, length, length, 1, length, length, 1};
            x.constant(1, 8);
            x.port(0, -1, 8);
            for (int op = 2; op <= 6; op++) {
                x.reckon(op, 0, 0, 8);
            }
            x.pick(0, 0, 0, 8);
            x.touch(0, -1, 8);
            x.touch(0, 0, 8);
            x.port(0, 0, 8);
            for (int a = 0; a <= 10; a++) {
                int asX = x.reckon(2, a, 0, 8);
                int asY = x.reckon(2, 0, a, 8);
                int asZ = x.pick(0, 0, a, 8);
                String what = "14: OP " + a + ", LENGTH " + lengths[a];
                Check.due(what + ", as x", x.needs(a, asX), lengths[a]);
                Check.due(what + ", as y", x.needs(a, asY), lengths[a]);
                Check.due(what + ", as z", x.needs(a, asZ), lengths[a]);
                Check.due(what + ", no operand", x.needs(a, x.reckon(2, 0, 0, 8)), 0);
                for (int i = 0; i < 4; i++) {
                    x.drop();
                }
            }
        }
    }

    /** A place of 2 bits is -2 .. 1: what is next to it, and what has one number in common. */
    private static void needsOfPlaces() {
        long[] numbers = {-3, -2, 1, 2};
        int[] due = {0, 1, 1, 0};
        for (int i = 0; i < numbers.length; i++) {
            GateMaker x = new GateMaker();
            int in = x.port(0, -1, 2);
            int number = x.constant(numbers[i], 8);
            int wide = x.touch(in, number, 8);
            int fetch = x.touch(number, -1, 8);
            int narrow = x.touch(number, in, 8);
            int behind = x.touch(in, -1, 8);
            String what = "14: places -2 .. 1 and " + numbers[i];
            Check.due(what + ": STORE, FETCH", x.needs(wide, fetch), due[i]);
            Check.due(what + ": STORE, FETCH, the other way", x.needs(narrow, behind), due[i]);
            Check.due(what + ": two FETCHES", x.needs(fetch, behind), 0);
        }
    }

    /** Every pair of OPS that are no operands of one another, on two PORTS and two places. */
    private static void needsOfEachPair() {
        int[] lengths = {0, 1, 2, 2, 3, 4, 2, 1, 5, 5, 1};
        for (int a = 0; a <= 10; a++) {
            for (int b = 0; b <= 10; b++) {
                GateMaker x = new GateMaker();
                x.length(0, 2, false);
                x.length(1, 3, false);
                x.length(3, 5, true);
                x.constant(1, 8);
                x.constant(2, 8);
                addAct(x, a, 0);
                addAct(x, b, 1);
                boolean mayFail = a == 1 || a == 5 || a == 8 || a == 9;
                boolean changes = b == 1 || b == 9 || b == 10;
                Check.due("14: OP " + a + ", then OP " + b, x.needs(2, 3), mayFail && changes ? lengths[a] : 0);
            }
        }
    }

    /** An ACT of an OP on CONSTS alone; which tells PORT and place. */
    private static void addAct(GateMaker x, int op, int which) {
        switch (op) {
            case 0 -> x.constant(1, 8);
            case 1 -> x.port(which, -1, 8);
            case 7 -> x.pick(0, 1, 0, 8);
            case 8 -> x.touch(which, -1, 8);
            case 9 -> x.touch(which, 0, 8);
            case 10 -> x.port(which, 0, 8);
            default -> x.reckon(op, 0, 1, 8);
        }
    }

    private static void needsOfPorts() {
        GateMaker x = new GateMaker();
        int number = x.constant(1, 8);
        int out = x.port(1, number, 8);
        int in = x.port(1, -1, 8);
        int same = x.port(1, number, 8);
        int other = x.port(2, number, 8);
        int again = x.port(1, -1, 8);
        int apart = x.port(2, -1, 8);
        Check.due("14: both OUT of one PORT", x.needs(out, same), 1);
        Check.due("14: both OUT, of two PORTS", x.needs(out, other), 0);
        Check.due("14: OUT, then IN of one PORT", x.needs(out, in), 0);
        Check.due("14: IN, then OUT of one PORT, it can FAIL", x.needs(in, same), 1);
        Check.due("14: both IN of one PORT", x.needs(in, again), 1);
        Check.due("14: both IN of two PORTS, it can FAIL", x.needs(in, apart), 1);
    }

    private static void needsTheGreatest() {
        GateMaker x = new GateMaker();
        x.length(3, 5, false);
        int place = x.constant(1, 8);
        int store = x.touch(place, place, 8);
        int fetch = x.touch(store, -1, 8);
        int apart = x.touch(place, -1, 8);
        int last = x.touch(place, fetch, 8);
        Check.due("14: an operand (5), and a place in common (1)", x.needs(store, fetch), 5);
        Check.due("14: a place in common alone", x.needs(store, apart), 1);
        Check.due("14: it can FAIL (5), and a place in common (1)", x.needs(apart, last), 5);
        x.length(3, 1, false);
        Check.due("14: an operand (1), and a place in common (1)", x.needs(store, fetch), 1);
    }

    private static void counts() {
        for (int what : new int[] {LOW, LOW + 2, LOW + 3, -2, -1, 7, 8, HIGH}) {
            Edge.refusedAlways("26: what " + what, x -> x.count(what), -1);
        }
        for (int what = 0; what <= 2; what++) {
            int asked = what;
            Edge.asked("26: nothing yet, what " + what, Made.NEW, x -> x.count(asked), 0);
        }
        int[] due = {16, 21, 3, 1, 2, 1, 1};
        for (int what = 0; what <= 6; what++) {
            int asked = what;
            Edge.asked("26: 16 ACTS, what " + what, Made.FULL, x -> x.count(asked), due[what]);
        }
        GateMaker x = new GateMaker();
        x.constant(1, 8);
        for (int i = 1; i < 16; i++) {
            x.pick(0, 0, 0, 8);
        }
        Check.due("26: one ACT three times is three operands, the most of all", x.count(1), 45);
        GateMaker y = new GateMaker();
        for (int i = 0; i < 80; i++) {
            y.feed(i % 4, i);
        }
        Check.due("26: all that can be told for PORTS", y.count(2), 80);
        for (int kind = 0; kind < 4; kind++) {
            y.parts(kind, 4);
            Check.due("26: the most PARTS of kind " + kind, y.count(3 + kind), 4);
            Check.due("26: the next kind has one still", y.count(3 + (kind + 1) % 4), kind == 3 ? 4 : 1);
        }
    }
}
