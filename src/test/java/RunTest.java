/** Promises 10, 11 and 21 to 25: what is told for ports and the row, and runs. */
public final class RunTest {
    public static void main(String[] args) {
        feeds();
        places();
        refusals();
        reckons();
        cuts();
        picks();
        rows();
        portsInOrder();
        dividesByZero();
        leavesTheRow();
        findsNothingLeft();
        leastFailureCounts();
        noneBeginsBehind();
        outsAndRows();
        Check.end();
    }

    private static void feeds() {
        GateMaker x = new GateMaker();
        Check.due("10: PORT -1", x.feed(-1, 5), -1);
        Check.due("10: PORT 4", x.feed(4, 5), -1);
        for (int i = 1; i <= 20; i++) {
            Check.due("10: number " + i, x.feed(3, i), i);
        }
        Check.due("10: there are 20", x.feed(3, 5), -2);
        Check.due("10: of that PORT alone", x.feed(2, 5), 1);
        Check.due("10: all", x.count(2), 21);
    }

    private static void places() {
        GateMaker x = new GateMaker();
        Check.due("11: place -1", x.place(-1, 5), -1);
        Check.due("11: place 16", x.place(16, 5), -1);
        Check.due("11: place 0", x.place(0, Long.MIN_VALUE), 0);
        Check.due("11: place 15", x.place(15, 4), 0);
        Check.due("11: again", x.place(15, 5), 0);
        x.constant(15, 8);
        x.touch(0, -1, 8);
        x.port(0, 1, 8);
        x.run(false);
        Check.due("11: it is fetched", x.out(0, 0), 5);
        Check.due("11: with all its bits", x.row(0), Long.MIN_VALUE);
    }

    private static void refusals() {
        GateMaker x = new GateMaker();
        Check.due("21: -2 is before -3", x.run(true), -2);
        Check.due("21: no ACTS", x.run(false), -2);
        Check.due("22: no run", x.told(0), -3);
        Check.due("22: what 5 is before -3", x.told(5), -1);
        Check.due("22: what -1", x.told(-1), -1);
        Check.due("24: no run", x.outs(0), -3);
        Check.due("24: PORT 4 is before -3", x.outs(4), -1);
        Check.due("24: PORT -1", x.outs(-1), -1);
        Check.wrongState("23: no run", () -> x.out(0, 0));
        Check.wrongArgument("23: PORT 4", () -> x.out(4, 0));
        Check.wrongArgument("23: PORT -1", () -> x.out(-1, 0));
        Check.wrongArgument("23: i -1", () -> x.out(0, -1));
        Check.wrongState("25: no run", () -> x.row(0));
        Check.wrongArgument("25: place -1", () -> x.row(-1));
        Check.wrongArgument("25: place 16", () -> x.row(16));
        x.constant(4, 8);
        Check.due("21: not laid", x.run(true), -3);
        Check.due("21: it was no run", x.told(0), -3);
        Check.due("21: PLAIN", x.run(false), 0);
        Check.due("21: not laid", x.run(true), -3);
        Check.due("21: the run before stays", x.told(2), 1);
    }

    /** The numbers that a block puts out of PORT 3, laid and plain. */
    private static void puts(String what, GateMaker x, long... due) {
        x.lay();
        for (int turn = 0; turn < 2; turn++) {
            x.run(turn == 0);
            Check.due(what + ": how many", x.outs(3), due.length);
            for (int i = 0; i < due.length && i < x.outs(3); i++) {
                Check.due(what + ": number " + i, x.out(3, i), due[i]);
            }
        }
    }

    private static void reckons() {
        long[][] rows = {
            {7, 3, 10, 4, 21, 2, 0}, {-7, 3, -4, -10, -21, -2, 1}, {7, -3, 4, 10, -21, -2, 0},
            {-7, -3, -10, -4, 21, 2, 1}, {3, 3, 6, 0, 9, 1, 0}, {0, 5, 5, -5, 0, 0, 1},
        };
        for (long[] row : rows) {
            GateMaker x = new GateMaker();
            x.constant(row[0], 8);
            x.constant(row[1], 8);
            for (int op = 2; op <= 6; op++) {
                x.port(3, x.reckon(op, 0, 1, 8), 8);
            }
            puts("21: " + row[0] + ", " + row[1], x, row[2], row[3], row[4], row[5], row[6]);
        }
    }

    private static void cuts() {
        GateMaker x = new GateMaker();
        x.feed(0, 0x1234567890L);
        int in = x.port(0, -1, 32);
        int low = x.constant(1L << 31, 32);
        int less = x.constant(-1, 1);
        x.port(3, in, 32);
        x.port(3, in, 8);
        x.port(3, x.reckon(4, low, low, 32), 32);
        x.port(3, x.reckon(5, low, less, 32), 32);
        x.port(3, x.reckon(6, low, in, 1), 32);
        x.port(3, x.touch(x.constant(2, 4), in, 6), 32);
        puts("21: cut", x, 0x34567890L, (byte) 0x90, 0, -(1L << 31), -1, 0x10);
        Check.due("21: the row has what is cut", x.row(2), 0x10);
    }

    private static void picks() {
        GateMaker x = new GateMaker();
        int nought = x.constant(0, 8);
        int less = x.constant(-1, 8);
        int five = x.constant(5, 8);
        x.port(3, x.pick(nought, less, five, 8), 8);
        x.port(3, x.pick(less, nought, five, 8), 8);
        x.port(3, x.pick(five, five, less, 2), 8);
        puts("21: PICK", x, 5, 0, 1);
    }

    private static void rows() {
        GateMaker x = new GateMaker();
        x.place(1, 40);
        x.length(3, 6, true);
        int one = x.constant(1, 8);
        int before = x.touch(one, -1, 8);
        int store = x.touch(one, x.constant(9, 8), 8);
        int behind = x.touch(one, -1, 8);
        x.port(3, before, 8);
        x.port(3, store, 8);
        x.port(3, behind, 8);
        puts("21: ROW", x, 40, 9, 9);
        Check.due("25: it is stored", x.row(1), 9);
        puts("21: each run begins with the ROW as told", x, 40, 9, 9);
        x.place(1, 41);
        Check.due("25: behind the run, not as told", x.row(1), 9);
        puts("21: as told anew", x, 41, 9, 9);
    }

    private static void portsInOrder() {
        GateMaker x = new GateMaker();
        x.feed(0, 1);
        x.feed(0, 2);
        x.feed(1, 3);
        int a = x.port(0, -1, 8);
        int b = x.port(1, -1, 8);
        int c = x.port(0, -1, 8);
        x.port(3, c, 8);
        x.port(3, b, 8);
        x.port(3, a, 8);
        puts("21: PORTS", x, 2, 3, 1);
        Check.due("22: put out in all", x.told(4), 3);
    }

    private static void failed(String what, GateMaker x, int... told) {
        for (int i = 0; i < told.length; i++) {
            Check.due(what + ": told(" + i + ")", x.told(i), told[i]);
        }
    }

    private static void dividesByZero() {
        GateMaker x = new GateMaker();
        int five = x.constant(5, 8);
        x.port(1, five, 8);
        int nought = x.reckon(3, five, five, 8);
        int over = x.reckon(5, five, nought, 8);
        x.port(1, over, 8);
        x.port(2, five, 8);
        Check.due("15: lay", x.lay(), 6);
        Check.due("21: LAID", x.run(true), 1);
        failed("22: LAID", x, 1, 3, 4, 1, 1);
        Check.due("24: one before it", x.outs(1), 1);
        Check.due("24: none behind it", x.outs(2), 0);
        Check.due("21: PLAIN", x.run(false), 1);
        failed("22: PLAIN", x, 1, 3, 4, 0, 1);
    }

    private static void leavesTheRow() {
        long[] wrong = {-1, 16, -128, 127};
        for (long place : wrong) {
            for (int y = -1; y <= 0; y++) {
                GateMaker x = new GateMaker();
                x.constant(place, 8);
                x.touch(0, y, 8);
                x.port(0, 1, 8);
                x.lay();
                Check.due("21: place " + place, x.run(true), 2);
                failed("22: place " + place, x, 2, 1, 2, 0, 0);
                Check.due("21: place, PLAIN " + place, x.run(false), 2);
            }
        }
        for (int place = 0; place < 16; place += 15) {
            GateMaker x = new GateMaker();
            x.constant(place, 8);
            x.touch(0, 0, 8);
            x.lay();
            Check.due("21: it is a place", x.run(true), 0);
            failed("22: without a FAILURE", x, 0, -2, 2, 1, 0);
            Check.due("25: stored", x.row(place), place);
        }
    }

    private static void findsNothingLeft() {
        GateMaker x = new GateMaker();
        x.port(2, -1, 8);
        x.port(2, -1, 8);
        x.feed(2, 7);
        x.feed(1, 7);
        x.lay();
        Check.due("21: LAID", x.run(true), 3);
        failed("22: the second IN", x, 3, 1, 2, 1, 0);
        Check.due("21: PLAIN", x.run(false), 3);
        failed("22: PLAIN", x, 3, 1, 2, 0, 0);
        x.feed(2, 8);
        Check.due("10: the run before stays", x.told(0), 3);
        Check.due("21: now there is one", x.run(true), 0);
        failed("22: ALL TICKS", x, 0, -2, 2, 2, 0);
    }

    private static void leastFailureCounts() {
        GateMaker x = new GateMaker();
        int nought = x.constant(0, 8);
        int far = x.constant(99, 8);
        int late = x.reckon(4, far, nought, 8);
        int over = x.reckon(5, far, late, 8);
        int fetch = x.touch(far, -1, 8);
        int sum = x.reckon(2, fetch, nought, 8);
        x.lay();
        Check.due("15: the FETCH is first", x.tick(fetch, 0), 0);
        Check.due("15: the OVER is behind it", x.tick(over, 0), 2);
        Check.due("15: the sum between", x.tick(sum, 0), 1);
        Check.due("21: the OVER counts", x.run(true), 1);
        failed("22: all begin but the sum", x, 1, over, 5, 2, 0);
        Check.due("21: PLAIN", x.run(false), 1);
        failed("22: PLAIN", x, 1, over, 4, 0, 0);
    }

    private static void noneBeginsBehind() {
        GateMaker x = new GateMaker();
        int nought = x.constant(0, 8);
        int one = x.constant(1, 8);
        int slow = x.reckon(4, one, one, 8);
        int kept = x.port(0, slow, 8);
        int over = x.reckon(5, one, nought, 8);
        x.constant(3, 8);
        x.reckon(2, one, one, 8);
        x.lay();
        Check.due("15: the OUT is later than the OVER", x.tick(kept, 0), 2);
        Check.due("21: LAID", x.run(true), 1);
        failed("22: the OUT before it still begins, of those behind none", x, 1, over, 5, 0, 1);
        Check.due("23: it is put out", x.out(0, 0), 1);
    }

    private static void outsAndRows() {
        GateMaker x = new GateMaker();
        x.constant(5, 8);
        x.port(1, 0, 8);
        x.port(1, 0, 2);
        x.run(false);
        Check.due("23: number 0", x.out(1, 0), 5);
        Check.due("23: number 1", x.out(1, 1), 1);
        Check.wrongArgument("23: number 2", () -> x.out(1, 2));
        Check.wrongArgument("23: none of PORT 0", () -> x.out(0, 0));
        Check.wrongArgument("23: PORT 4", () -> x.out(4, 0));
        Check.wrongArgument("23: i below 0", () -> x.out(1, Integer.MIN_VALUE));
        Check.due("24: two", x.outs(1), 2);
        Check.due("24: none", x.outs(0), 0);
        Check.due("24: PORT 4", x.outs(4), -1);
        Check.due("25: row", x.row(15), 0);
        Check.wrongArgument("25: place 16", () -> x.row(16));
        Check.due("22: what 5", x.told(5), -1);
        x.parts(0, 2);
        Check.wrongState("23: the run is gone", () -> x.out(1, 0));
        Check.wrongState("25: the run is gone", () -> x.row(0));
    }
}
