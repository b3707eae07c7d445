/** Promises 27 to 32: shelves. */
public final class ShelfTest {
    private static final int LOW = Integer.MIN_VALUE;
    private static final int HIGH = Integer.MAX_VALUE;

    public static void main(String[] args) {
        keeps();
        keepsWhatWas();
        makes();
        elements();
        copies();
        copiesOntoItself();
        refusesInOrder();
        weights();
        tosses();
        Check.end();
    }

    private static void keeps() {
        GateMaker x = new GateMaker();
        Check.due("27: SHELF -1", x.keep(-1, 0, 0), -1);
        Check.due("27: SHELF 8", x.keep(8, 0, 0), -1);
        int[] wrong = {LOW, -1, 2, 5, HIGH};
        for (int what : wrong) {
            Check.due("27: what " + what, x.keep(0, what, 0), -1);
        }
        Check.due("27: no ACT 0", x.keep(0, 1, 0), -1);
        Check.due("27: not laid", x.keep(0, 3, 0), -3);
        Check.due("27: SHELF 8 is before -3", x.keep(8, 3, 0), -1);
        x.constant(5, 8);
        Check.due("27: an ACT", x.keep(0, 1, 0), 0);
        Check.due("27: no ACT -1", x.keep(0, 1, -1), -1);
        Check.due("27: not laid", x.keep(0, 3, 0), -3);
        Check.due("27: the ACT is still there", x.weight(0), 8);
        Check.due("27: k is of ACTS alone", x.keep(7, 4, -9), 0);
        Check.due("27: a ROW", x.element(7, 15), 0);
        Check.due("27: nothing", x.keep(0, 0, -9), 0);
        Check.due("27: nothing is held", x.weight(0), -11);
    }

    private static void keepsWhatWas() {
        GateMaker x = new GateMaker();
        x.constant(5, 8);
        x.reckon(5, 0, 0, 8);
        x.reckon(2, 1, 1, 8);
        x.lay();
        x.place(3, Long.MAX_VALUE);
        Check.due("27: TICKS", x.keep(1, 3, 0), 0);
        Check.due("27: the ROW", x.keep(2, 4, 0), 0);
        x.keep(3, 1, 1);
        x.place(3, 6);
        x.touch(0, 0, 8);
        x.run(false);
        x.drop();
        x.drop();
        x.drop();
        x.constant(1, 1);
        int[] ticks = {0, 0, 4};
        for (int a = 0; a < ticks.length; a++) {
            Check.due("27: TICK of " + a, x.element(1, a), ticks[a]);
        }
        Check.wrongState("27: of all ACTS there were", () -> x.element(1, 3));
        Check.due("27: as it was told then", x.element(2, 3), Long.MAX_VALUE);
        Check.due("27: as told, not behind a run", x.element(2, 5), 0);
        Check.due("27: the ACT that was", x.weight(3), 256);
        x.make(4, 4, 1);
        x.copy(4, 0, 2, 3, 1);
        x.keep(5, 4, 0);
        Check.due("27: SHELVES don't change the ROW", x.element(5, 3), 6);
    }

    private static void makes() {
        GateMaker x = new GateMaker();
        int[] wrong = {LOW, 0, 1, 2, 5, HIGH};
        for (int what : wrong) {
            Check.due("28: what " + what, x.make(0, what, 3), -1);
        }
        Check.due("28: SHELF -1", x.make(-1, 3, 3), -1);
        Check.due("28: SHELF 8", x.make(8, 3, 3), -1);
        Check.due("28: n 61", x.make(0, 3, 61), -1);
        Check.due("28: n -1", x.make(0, 3, -1), -14);
        Check.due("28: n low", x.make(0, 4, LOW), -14);
        Check.due("28: -1 is before -14", x.make(8, 3, -1), -1);
        Check.due("28: what is before -14", x.make(0, 2, -1), -1);
        Check.due("28: nothing is held", x.weight(0), -11);
        Check.due("28: 60", x.make(0, 3, 60), 0);
        Check.due("28: the last", x.element(0, 59), 0);
        Check.due("28: none", x.make(0, 4, 0), 0);
        Check.wrongState("28: it has no place", () -> x.element(0, 0));
    }

    private static void elements() {
        GateMaker x = new GateMaker();
        x.constant(5, 8);
        x.keep(1, 1, 0);
        x.make(2, 4, 2);
        Check.wrongArgument("29: SHELF -1", () -> x.element(-1, 0));
        Check.wrongArgument("29: SHELF 8", () -> x.element(8, -1));
        Check.wrongState("29: nothing is held", () -> x.element(0, 0));
        Check.wrongState("29: no ROW", () -> x.element(1, 0));
        Check.wrongState("29: place -1", () -> x.element(2, -1));
        Check.wrongState("29: place 2", () -> x.element(2, 2));
        Check.wrongState("29: place high", () -> x.element(2, HIGH));
        Check.due("29: place 1", x.element(2, 1), 0);
    }

    private static GateMaker withRows() {
        GateMaker x = new GateMaker();
        for (int i = 0; i < 16; i++) {
            x.place(i, 100 + i);
        }
        x.keep(0, 4, 0);
        x.make(1, 4, 3);
        x.make(2, 3, 3);
        x.constant(1, 8);
        x.keep(3, 1, 0);
        return x;
    }

    private static void row(GateMaker x, int d, long... due) {
        for (int i = 0; i < due.length; i++) {
            Check.due("30: element(" + d + ", " + i + ")", x.element(d, i), due[i]);
        }
    }

    private static void copies() {
        GateMaker x = withRows();
        Check.due("30: two", x.copy(0, 14, 1, 1, 2), 2);
        row(x, 1, 0, 114, 115);
        Check.due("30: none, at the ends", x.copy(0, 16, 1, 3, 0), 0);
        Check.due("30: none, beyond d's", x.copy(0, 17, 1, 0, 0), -13);
        Check.due("30: none, beyond e's", x.copy(0, 0, 1, 4, 0), -13);
        Check.due("30: beyond d's end", x.copy(0, 15, 1, 0, 2), -13);
        Check.due("30: beyond e's end", x.copy(0, 0, 1, 2, 2), -13);
        Check.due("30: n", x.copy(0, 0, 1, 0, -1), -13);
        Check.due("30: i", x.copy(0, -1, 1, 0, 1), -13);
        Check.due("30: j", x.copy(0, 0, 1, -1, 1), -13);
        Check.due("30: high ones", x.copy(0, HIGH, 1, HIGH, HIGH), -13);
        Check.due("30: low ones", x.copy(0, LOW, 1, LOW, LOW), -13);
        row(x, 1, 0, 114, 115);
        Check.due("30: all of ints", x.copy(2, 0, 2, 0, 3), 3);
    }

    private static void copiesOntoItself() {
        GateMaker x = withRows();
        Check.due("30: upwards", x.copy(0, 0, 0, 1, 4), 4);
        row(x, 0, 100, 100, 101, 102, 103, 105);
        Check.due("30: downwards", x.copy(0, 2, 0, 0, 4), 4);
        row(x, 0, 101, 102, 103, 105, 103, 105);
    }

    private static void refusesInOrder() {
        GateMaker x = withRows();
        Check.due("30: d", x.copy(8, 0, 7, 0, -1), -1);
        Check.due("30: e", x.copy(7, 0, -1, 0, -1), -1);
        Check.due("30: nothing on d", x.copy(7, 0, 3, 0, -1), -11);
        Check.due("30: nothing on e", x.copy(3, 0, 7, 0, -1), -11);
        Check.due("30: an ACT on d", x.copy(3, 0, 1, 0, -1), -12);
        Check.due("30: an ACT on e", x.copy(1, 0, 3, 0, -1), -12);
        Check.due("30: two ACTS", x.copy(3, 0, 3, 0, 0), -12);
        Check.due("30: not of one kind", x.copy(1, 0, 2, 0, -1), -12);
        Check.due("30: nor the other way", x.copy(2, 0, 1, 0, 0), -12);
    }

    private static void weights() {
        GateMaker x = new GateMaker();
        x.constant(1, 8);
        x.port(0, -1, 3);
        x.reckon(2, 0, 0, 8);
        x.reckon(3, 0, 0, 8);
        x.reckon(4, 0, 0, 8);
        x.reckon(5, 0, 0, 9);
        x.reckon(6, 0, 0, 1);
        x.pick(0, 0, 0, 32);
        x.touch(0, -1, 8);
        x.touch(0, 0, 8);
        x.port(0, 0, 8);
        int[] due = {8, 1010, 28, 28, 128, 258, 21, 62, 25, 35, 1025};
        for (int a = 0; a < due.length; a++) {
            x.keep(a % 8, 1, a);
            Check.due("31: ACT " + a, x.weight(a % 8), due[a]);
        }
        Check.due("31: SHELF -1", x.weight(-1), -1);
        Check.due("31: SHELF 8", x.weight(8), -1);
        x.keep(0, 0, 0);
        Check.due("31: nothing is held", x.weight(0), -11);
        x.make(0, 3, 0);
        Check.due("31: a ROW", x.weight(0), -12);
    }

    private static void tosses() {
        GateMaker x = new GateMaker();
        x.constant(1, 8);
        x.port(0, -1, 3);
        for (int op = 2; op <= 6; op++) {
            x.reckon(op, 0, 0, 8);
        }
        x.pick(0, 0, 0, 32);
        x.touch(0, -1, 8);
        x.touch(0, 0, 8);
        x.port(0, 0, 8);
        int[] due = {-15, 3, -15, -15, -15, 1, -15, -15, 2, 2, -15};
        for (int a = 0; a < due.length; a++) {
            x.keep(a % 8, 1, a);
            Check.due("32: ACT " + a, x.toss(a % 8), due[a]);
        }
        Check.due("32: SHELF -1", x.toss(-1), -1);
        Check.due("32: SHELF 8", x.toss(8), -1);
        x.keep(0, 0, 0);
        Check.due("32: nothing is held", x.toss(0), -11);
        x.make(0, 4, 3);
        Check.due("32: a ROW", x.toss(0), -12);
    }
}
