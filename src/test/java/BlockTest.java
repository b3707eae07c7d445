/** Promises 1 to 7, 12 to 14 and 26: the block, its acts, and what is told of them. */
public final class BlockTest {
    private static final int LOW = Integer.MIN_VALUE;
    private static final int HIGH = Integer.MAX_VALUE;

    public static void main(String[] args) {
        newObject();
        constants();
        ports();
        reckons();
        picks();
        touches();
        drops();
        acts();
        spans();
        narrowSpans();
        spansOfSigns();
        spansWithAnEndAtZero();
        bits();
        needsOfOperands();
        needsOfRowAndPorts();
        counts();
        Check.end();
    }

    /** A block of 16 constants. */
    private static GateMaker full() {
        GateMaker x = new GateMaker();
        for (int i = 0; i < 16; i++) {
            Check.due("constant " + i, x.constant(i, 8), i);
        }
        return x;
    }

    private static void newObject() {
        GateMaker x = new GateMaker();
        Check.due("1: acts", x.count(0), 0);
        Check.due("1: operands", x.count(1), 0);
        Check.due("1: fed", x.count(2), 0);
        Check.due("1: lay", x.lay(), -2);
        Check.due("1: run", x.run(false), -2);
        Check.due("1: keep the row", x.keep(0, 4, 0), 0);
        for (int i = 0; i < 16; i++) {
            Check.due("1: row " + i, x.element(0, i), 0);
        }
        int[] lengths = {1, 2, 4, 1};
        for (int kind = 0; kind < 4; kind++) {
            Check.due("1: parts", x.count(3 + kind), 1);
            Check.due("1: length", x.length(kind, 1, false), lengths[kind]);
        }
        Check.due("1: shelf", x.weight(7), -11);
        x.port(0, -1, 8);
        Check.due("1: nothing was told", x.run(false), 3);
    }

    private static void constants() {
        GateMaker x = new GateMaker();
        Check.due("2: width 0", x.constant(1, 0), -1);
        Check.due("2: width 33", x.constant(1, 33), -1);
        Check.due("2: width low", x.constant(1, LOW), -1);
        Check.due("2: nothing changed", x.count(0), 0);
        Check.due("2: first", x.constant(200, 8), 0);
        Check.due("2: cut", x.span(0, true), -56);
        Check.due("2: width 1", x.constant(1, 1), 1);
        Check.due("2: one bit is a sign", x.span(1, false), -1);
        Check.due("2: width 32", x.constant(1L << 31, 32), 2);
        Check.due("2: cut to 32", x.span(2, false), -(1L << 31));
        Check.due("2: of 64 bits", x.constant(Long.MIN_VALUE + 5, 4), 3);
        Check.due("2: the low ones", x.span(3, false), 5);
        GateMaker y = full();
        Check.due("2: no room", y.constant(1, 8), -2);
        Check.due("2: -1 is before -2", y.constant(1, 0), -1);
        Check.due("2: 16 it stays", y.count(0), 16);
    }

    private static void ports() {
        GateMaker x = new GateMaker();
        Check.due("3: PORT -1", x.port(-1, -1, 8), -1);
        Check.due("3: PORT 4", x.port(4, -1, 8), -1);
        Check.due("3: no ACT 0", x.port(0, 0, 8), -1);
        Check.due("3: x -2", x.port(0, -2, 8), -1);
        Check.due("3: width", x.port(0, -1, 33), -1);
        Check.due("3: IN", x.port(3, -1, 8), 0);
        Check.due("3: OP 1", x.act(0, 0), 1);
        Check.due("3: OUT", x.port(2, 0, 8), 1);
        Check.due("3: OP 10", x.act(1, 0), 10);
        Check.due("3: PORT", x.act(1, 5), 2);
        Check.due("3: not itself", x.port(2, 2, 8), -1);
        GateMaker y = full();
        Check.due("3: no room for IN", y.port(0, -1, 8), -2);
        Check.due("3: no room for OUT", y.port(0, 15, 8), -2);
        Check.due("3: -1 is before -2", y.port(4, -1, 8), -1);
        Check.due("3: no ACT 16", y.port(0, 16, 8), -1);
    }

    private static void reckons() {
        GateMaker x = new GateMaker();
        Check.due("4: no ACTS", x.reckon(2, 0, 0, 8), -1);
        x.constant(6, 8);
        x.constant(4, 8);
        for (int op = 2; op <= 6; op++) {
            Check.due("4: OP " + op, x.reckon(op, 0, 1, 8), op);
            Check.due("4: is that OP", x.act(op, 0), op);
        }
        int[] wrong = {LOW, -1, 0, 1, 7, 8, 9, 10, 11, HIGH};
        for (int op : wrong) {
            Check.due("4: no such OP " + op, x.reckon(op, 0, 1, 8), -1);
        }
        Check.due("4: x -1", x.reckon(2, -1, 1, 8), -1);
        Check.due("4: y -1", x.reckon(2, 0, -1, 8), -1);
        Check.due("4: x 7", x.reckon(2, 7, 0, 8), -1);
        Check.due("4: y 7", x.reckon(2, 0, 7, 8), -1);
        Check.due("4: width 0", x.reckon(2, 0, 0, 0), -1);
        Check.due("4: width 33", x.reckon(2, 0, 0, 33), -1);
        Check.due("4: both one ACT", x.reckon(4, 0, 0, 8), 7);
        GateMaker y = full();
        Check.due("4: no room", y.reckon(2, 0, 0, 8), -2);
        Check.due("4: -1 is before -2", y.reckon(7, 0, 0, 8), -1);
    }

    private static void picks() {
        GateMaker x = new GateMaker();
        Check.due("5: no ACTS", x.pick(0, 0, 0, 8), -1);
        x.constant(6, 8);
        Check.due("5: x", x.pick(1, 0, 0, 8), -1);
        Check.due("5: y", x.pick(0, -1, 0, 8), -1);
        Check.due("5: z", x.pick(0, 0, -1, 8), -1);
        Check.due("5: width", x.pick(0, 0, 0, 0), -1);
        Check.due("5: a PICK", x.pick(0, 0, 0, 8), 1);
        Check.due("5: OP 7", x.act(1, 0), 7);
        GateMaker y = full();
        Check.due("5: no room", y.pick(1, 2, 3, 8), -2);
        Check.due("5: -1 is before -2", y.pick(1, 2, 16, 8), -1);
    }

    private static void touches() {
        GateMaker x = new GateMaker();
        Check.due("6: no ACTS", x.touch(0, -1, 8), -1);
        x.constant(6, 8);
        Check.due("6: x -1", x.touch(-1, -1, 8), -1);
        Check.due("6: y -2", x.touch(0, -2, 8), -1);
        Check.due("6: y 1", x.touch(0, 1, 8), -1);
        Check.due("6: width", x.touch(0, 0, 33), -1);
        Check.due("6: FETCH", x.touch(0, -1, 8), 1);
        Check.due("6: OP 8", x.act(1, 0), 8);
        Check.due("6: STORE", x.touch(0, 1, 8), 2);
        Check.due("6: OP 9", x.act(2, 0), 9);
        GateMaker y = full();
        Check.due("6: no room", y.touch(0, -1, 8), -2);
        Check.due("6: -1 is before -2", y.touch(16, -1, 8), -1);
    }

    private static void drops() {
        GateMaker x = new GateMaker();
        Check.due("7: none", x.drop(), -2);
        x.constant(6, 8);
        x.port(0, 0, 8);
        x.lay();
        x.run(true);
        Check.due("7: one is left", x.drop(), 1);
        Check.due("7: what was laid is gone", x.registers(), -3);
        Check.due("7: the run is gone", x.told(0), -3);
        Check.due("7: no ACT 1", x.act(1, 0), -1);
        Check.due("7: its number comes again", x.constant(7, 8), 1);
        Check.due("7: as another", x.act(1, 0), 0);
        x.drop();
        Check.due("7: the last", x.drop(), 0);
        Check.due("7: none again", x.drop(), -2);
        GateMaker y = full();
        y.drop();
        Check.due("7: there is room again", y.constant(1, 8), 15);
    }

    private static void acts() {
        GateMaker x = new GateMaker();
        Check.due("12: none", x.act(0, 0), -1);
        x.constant(6, 9);
        x.port(3, -1, 8);
        x.port(2, 1, 7);
        x.reckon(6, 0, 1, 6);
        x.reckon(4, 1, 2, 5);
        x.reckon(5, 2, 3, 4);
        x.pick(3, 1, 2, 3);
        x.touch(4, -1, 2);
        x.touch(5, 6, 1);
        int[][] due = {
            {0, 9, -2, -2, -2, -2, 0, 4, -2}, {1, 8, -2, -2, -2, 3, 1, 8, -2},
            {10, 7, 1, -2, -2, 2, 1, 7, -2}, {6, 6, 0, 1, -2, -2, 1, 2, 0},
            {4, 5, 1, 2, -2, -2, 2, 5, 1}, {5, 4, 2, 3, -2, -2, 4, 4, 2},
            {7, 3, 3, 1, 2, -2, 1, 3, -2}, {8, 2, 4, -2, -2, -2, 1, 2, 3},
            {9, 1, 5, 6, -2, -2, 1, 1, 3},
        };
        for (int a = 0; a < due.length; a++) {
            for (int what = 0; what < due[a].length; what++) {
                Check.due("12: act(" + a + ", " + what + ")", x.act(a, what), due[a][what]);
            }
        }
        x.length(3, 8, true);
        Check.due("12: LENGTH as told", x.act(7, 6), 8);
        Check.due("12: what -1", x.act(0, -1), -1);
        Check.due("12: what 9", x.act(0, 9), -1);
        Check.due("12: act -1", x.act(-1, 0), -1);
        Check.due("12: act 9", x.act(9, 0), -1);
        Check.due("12: act high", x.act(HIGH, 0), -1);
    }

    private static void span(GateMaker x, int act, long least, long greatest) {
        Check.due("13: least of " + act, x.span(act, false), least);
        Check.due("13: greatest of " + act, x.span(act, true), greatest);
    }

    private static void spans() {
        GateMaker x = new GateMaker();
        Check.wrongArgument("13: none", () -> x.span(0, true));
        span(x, x.port(0, -1, 4), -8, 7);
        span(x, x.constant(-3, 4), -3, -3);
        span(x, x.reckon(2, 0, 1, 8), -11, 4);
        span(x, x.reckon(3, 0, 1, 8), -5, 10);
        span(x, x.reckon(3, 1, 0, 8), -10, 5);
        span(x, x.reckon(4, 0, 1, 8), -21, 24);
        span(x, x.reckon(4, 0, 0, 8), -56, 64);
        span(x, x.reckon(5, 0, 1, 8), -8, 8);
        span(x, x.reckon(6, 0, 1, 8), 0, 1);
        span(x, x.pick(0, 2, 3, 8), -11, 10);
        span(x, x.touch(0, -1, 5), -16, 15);
        span(x, x.touch(0, 4, 5), -10, 5);
        span(x, x.port(0, 6, 8), -56, 64);
        span(x, x.port(0, 6, 7), -64, 63);
        span(x, x.reckon(2, 0, 0, 4), -8, 7);
        span(x, x.reckon(4, 0, 0, 32), -56, 64);
        Check.wrongArgument("13: act -1", () -> x.span(-1, true));
        Check.wrongArgument("13: act 16", () -> x.span(16, false));
    }

    private static void narrowSpans() {
        GateMaker x = new GateMaker();
        int two = x.constant(2, 8);
        int three = x.constant(3, 8);
        int in = x.port(0, -1, 3);
        int nought = x.reckon(6, three, two, 8);
        int one = x.reckon(6, two, three, 8);
        int even = x.reckon(6, two, two, 8);
        span(x, nought, 0, 0);
        span(x, one, 1, 1);
        span(x, even, 0, 0);
        span(x, x.reckon(6, two, three, 1), -1, 0);
        span(x, x.reckon(6, in, three, 8), 0, 1);
        int edge = x.constant(-4, 8);
        span(x, x.reckon(6, in, edge, 8), 0, 0);
        span(x, x.pick(nought, in, three, 8), 3, 3);
        span(x, x.pick(one, in, three, 8), -4, 3);
        span(x, x.pick(edge, two, three, 8), 2, 2);
        span(x, x.pick(in, two, edge, 8), -4, 2);
        int far = x.constant(Long.MAX_VALUE, 32);
        span(x, far, -1, -1);
        x.drop();
        int low = x.constant(1L << 31, 32);
        span(x, x.reckon(4, low, low, 32), -(1L << 31), (1L << 31) - 1);
    }

    private static void spansOfSigns() {
        GateMaker x = new GateMaker();
        int in = x.port(0, -1, 2);
        int above = x.reckon(2, in, x.constant(10, 8), 8);
        int under = x.reckon(2, in, x.constant(-10, 8), 8);
        span(x, above, 8, 11);
        span(x, under, -12, -9);
        span(x, x.reckon(4, above, above, 16), 64, 121);
        span(x, x.reckon(4, above, under, 16), -132, -72);
        span(x, x.reckon(4, under, above, 16), -132, -72);
        span(x, x.reckon(4, under, under, 16), 81, 144);
        span(x, x.reckon(5, above, under, 16), -11, 11);
        span(x, x.reckon(5, under, above, 16), -12, 12);
        span(x, x.reckon(4, under, under, 8), -128, 127);
    }

    private static void spansWithAnEndAtZero() {
        GateMaker x = new GateMaker();
        int in = x.port(0, -1, 1);
        int either = x.reckon(3, in, x.constant(-1, 8), 8);
        int three = x.constant(3, 8);
        int five = x.constant(5, 8);
        span(x, in, -1, 0);
        span(x, either, 0, 1);
        span(x, x.pick(in, three, five, 8), 3, 5);
        span(x, x.pick(either, five, three, 8), 3, 5);
    }

    private static void bits() {
        long[] numbers = {0, -1, 1, -2, 2, 3, -4, 7, -8, -9, 127, 128, -128, -129, 0x7fffffffL, -0x80000000L};
        int[] due = {1, 1, 2, 2, 3, 3, 3, 4, 4, 5, 8, 9, 8, 9, 32, 32};
        GateMaker x = new GateMaker();
        for (int i = 0; i < numbers.length; i++) {
            x.constant(numbers[i], 32);
            Check.due("12: BITS of " + numbers[i], x.act(i, 7), due[i]);
        }
    }

    private static void needsOfOperands() {
        GateMaker x = new GateMaker();
        x.port(0, -1, 8);
        x.constant(3, 8);
        x.reckon(4, 0, 1, 8);
        x.reckon(5, 2, 2, 8);
        x.reckon(2, 3, 1, 8);
        x.pick(2, 3, 4, 8);
        Check.due("14: a CONST", x.needs(1, 2), 0);
        Check.due("14: an IN", x.needs(0, 2), 1);
        Check.due("14: a TIMES", x.needs(2, 3), 2);
        Check.due("14: an OVER", x.needs(3, 4), 4);
        Check.due("14: x of three", x.needs(2, 5), 2);
        Check.due("14: y of three", x.needs(3, 5), 4);
        Check.due("14: z of three", x.needs(4, 5), 1);
        Check.due("14: none", x.needs(0, 3), 0);
        Check.due("14: two that can't change anything", x.needs(0, 5), 0);
        x.length(1, 7, true);
        Check.due("14: a LENGTH as told, piped too", x.needs(2, 3), 7);
        Check.due("14: itself", x.needs(2, 2), -1);
        Check.due("14: not before", x.needs(3, 2), -1);
        Check.due("14: a -1", x.needs(-1, 2), -1);
        Check.due("14: b 6", x.needs(2, 6), -1);
        Check.due("14: both high", x.needs(HIGH - 1, HIGH), -1);
    }

    private static void needsOfRowAndPorts() {
        GateMaker x = new GateMaker();
        x.length(3, 3, false);
        int one = x.constant(1, 8);
        int two = x.constant(2, 8);
        int any = x.port(0, -1, 2);
        int fetch = x.touch(one, -1, 8);
        int again = x.touch(one, -1, 8);
        int store = x.touch(two, one, 8);
        int behind = x.touch(two, -1, 8);
        int apart = x.touch(one, -1, 8);
        int wide = x.touch(any, -1, 8);
        int second = x.touch(any, two, 8);
        int out = x.port(1, one, 8);
        int next = x.port(1, one, 8);
        int other = x.port(2, one, 8);
        int in = x.port(0, -1, 8);
        int over = x.reckon(5, one, two, 8);
        int last = x.port(2, one, 8);
        Check.due("14: two FETCHES", x.needs(fetch, again), 0);
        Check.due("14: FETCH, STORE elsewhere: it can FAIL", x.needs(fetch, store), 3);
        Check.due("14: STORE, FETCH there", x.needs(store, behind), 1);
        Check.due("14: STORE, FETCH elsewhere", x.needs(store, apart), 0);
        Check.due("14: STORE at 2, FETCH at -2 .. 1", x.needs(store, wide), 0);
        Check.due("14: two STORES", x.needs(store, second), 3);
        Check.due("14: IN, OUT", x.needs(any, out), 1);
        Check.due("14: two OUTS", x.needs(out, next), 1);
        Check.due("14: OUTS of two PORTS", x.needs(out, other), 0);
        Check.due("14: two INS", x.needs(any, in), 1);
        Check.due("14: OUT, IN", x.needs(next, in), 0);
        Check.due("14: OVER, OUT", x.needs(over, last), 4);
        Check.due("14: IN, OVER", x.needs(in, over), 0);
    }

    private static void counts() {
        GateMaker x = new GateMaker();
        x.constant(1, 8);
        x.reckon(2, 0, 0, 8);
        x.pick(0, 0, 1, 8);
        x.touch(0, -1, 8);
        x.touch(0, 0, 8);
        x.port(0, -1, 8);
        x.port(0, 1, 8);
        x.feed(0, 1);
        x.feed(3, 1);
        x.feed(3, 1);
        x.parts(0, 4);
        x.parts(1, 3);
        x.parts(2, 2);
        int[] due = {7, 9, 3, 4, 3, 2, 1};
        for (int what = 0; what < due.length; what++) {
            Check.due("26: count(" + what + ")", x.count(what), due[what]);
        }
        int[] others = {LOW, LOW + 2, -2, -1, 7, 8, HIGH};
        for (int what : others) {
            Check.due("26: count(" + what + ")", x.count(what), -1);
        }
    }
}
