/** The edges that the document names in promises 8, 9 and 15 to 20, each by its own case. */
public final class EdgesOfPlanTest {
    private static final int LOW = Edge.LOW;
    private static final int HIGH = Edge.HIGH;
    private static final int[] NO_KINDS = {LOW, -1, 4, HIGH};
    /** The states in which nothing is laid. */
    private static final Made[] NOT_LAID = {Made.NEW, Made.UNLAID, Made.RAN_PLAIN};

    public static void main(String[] args) {
        parts();
        lengths();
        pipedOrNot();
        takenAway();
        notTakenAway();
        laysNothing();
        laysFromTickZero();
        fillsAGapThatIsLongEnough();
        fillsAPipedGap();
        takesTheLeastPart();
        waitsForOneOfFour();
        laysTheMost();
        laysAgain();
        tickRefusals();
        justBehind();
        laterThanNeeded();
        partsOfActs();
        lives();
        sharesRegisters();
        givesRegistersInOrder();
        boundRefusals();
        boundsRoundUp();
        boundsWithAllParts();
        registers();
        chooserRefusals();
        choosers();
        atRefusals();
        ats();
        Check.end();
    }

    private static void parts() {
        for (int kind : NO_KINDS) {
            Edge.refusedAlways("8: kind " + kind, x -> x.parts(kind, 2), -1);
        }
        for (int kind = 0; kind < 4; kind++) {
            int good = kind;
            for (int n : new int[] {LOW, -1, 0, 5, HIGH}) {
                Edge.refusedAlways("8: n " + n + " of kind " + kind, x -> x.parts(good, n), -1);
            }
            GateMaker x = new GateMaker();
            Check.due("8: the greatest n, there was 1", x.parts(kind, 4), 1);
            Check.due("8: the least n, there were 4", x.parts(kind, 1), 4);
            Check.due("8: there was 1 again", x.parts(kind, 3), 1);
            for (int other = 0; other < 4; other++) {
                Check.due("8: of that kind alone", x.count(3 + other), other == kind ? 3 : 1);
            }
        }
    }

    private static void lengths() {
        for (int kind : NO_KINDS) {
            Edge.refusedAlways("9: kind " + kind, x -> x.length(kind, 2, true), -1);
        }
        int[] first = {1, 2, 4, 1};
        for (int kind = 0; kind < 4; kind++) {
            int good = kind;
            for (int n : new int[] {LOW, -1, 0, 9, HIGH}) {
                Edge.refusedAlways("9: n " + n + " of kind " + kind, x -> x.length(good, n, true), -1);
                Edge.refusedAlways("9: n " + n + " of kind " + kind, x -> x.length(good, n, false), -1);
            }
            GateMaker x = new GateMaker();
            Check.due("9: the greatest n, at first it was", x.length(kind, 8, true), first[kind]);
            Check.due("9: the least n, it was 8", x.length(kind, 1, false), 8);
            Check.due("9: it was 1", x.length(kind, 5, false), 1);
            for (int other = 0; other < 4; other++) {
                Check.due("9: of that kind alone", x.length(other, 1, false), other == kind ? 5 : first[other]);
            }
        }
    }

    private static void pipedOrNot() {
        for (int kind = 0; kind < 4; kind++) {
            GateMaker x = new GateMaker();
            x.constant(1, 8);
            x.reckon(2, 0, 0, 8);
            x.reckon(4, 0, 0, 8);
            x.reckon(5, 0, 0, 8);
            x.touch(0, -1, 8);
            int[] first = {1, 2, 4, 1};
            for (int other = 0; other < 4; other++) {
                Check.due("9: at first none is PIPED", x.bound(1 + other), first[other]);
            }
            x.length(kind, 8, false);
            Check.due("9: not PIPED, 8 TICKS are filled", x.bound(1 + kind), 8);
            x.length(kind, 8, true);
            Check.due("9: PIPED, the first TICK alone", x.bound(1 + kind), 1);
            Check.due("9: its LENGTH is 8 still", x.act(1 + kind, 6), 8);
            x.length(kind, 8, false);
            Check.due("9: no longer PIPED", x.bound(1 + kind), 8);
            x.length(kind, 1, true);
            Check.due("9: PIPED, of LENGTH 1", x.bound(1 + kind), 1);
        }
    }

    private static void takenAway() {
        Edge.Call[] changes = {
            x -> x.constant(1, 8), x -> x.port(0, -1, 8), x -> x.port(0, 0, 8), x -> x.reckon(2, 0, 0, 8),
            x -> x.pick(0, 0, 0, 8), x -> x.touch(0, -1, 8), x -> x.touch(0, 0, 8), x -> x.drop(),
            x -> x.parts(0, 2), x -> x.length(0, 2, false), x -> x.length(0, 1, true),
        };
        int[] promises = {2, 3, 3, 4, 5, 6, 6, 7, 8, 9, 9};
        for (int i = 0; i < changes.length; i++) {
            GateMaker x = Made.RAN_LAID.make();
            changes[i].on(x);
            String what = promises[i] + ": what changes takes away ";
            Check.due(what + "what was laid: tick", x.tick(0, 0), -3);
            Check.due(what + "what was laid: registers", x.registers(), -3);
            Check.due(what + "what was laid: chooser", x.chooser(0, 0, false), -3);
            Check.due(what + "what was laid: at", x.at(0, 0), -3);
            Check.due(what + "what was laid: run", x.run(true), -3);
            Check.due(what + "what was laid: keep", x.keep(0, 3, 0), -3);
            Check.due(what + "the run: told", x.told(0), -3);
            Check.due(what + "the run: outs", x.outs(0), -3);
            Check.wrongState(what + "the run: out", () -> x.out(1, 0));
            Check.wrongState(what + "the run: row", () -> x.row(0));
        }
    }

    private static void notTakenAway() {
        Edge.Call[] others = {
            x -> x.feed(0, 1), x -> x.place(0, 1), x -> x.keep(0, 1, 0), x -> x.keep(0, 3, 0),
            x -> x.keep(0, 4, 0), x -> x.make(0, 3, 5), x -> x.copy(2, 0, 2, 1, 2), x -> x.lay(),
        };
        int[] promises = {10, 11, 27, 27, 27, 28, 30, 15};
        for (int i = 0; i < others.length; i++) {
            GateMaker x = Made.RAN_LAID.make();
            others[i].on(x);
            String what = promises[i] + ": no change of BLOCK, PARTS or LENGTHS: ";
            Check.due(what + "what was laid stays", x.tick(2, 0), 1);
            Check.due(what + "the run stays", x.out(1, 0), 10);
            Check.due(what + "its ROW stays", x.row(0), 0);
        }
        GateMaker x = Made.RAN_PLAIN.make();
        Check.due("15: laid behind a PLAIN run", x.lay(), 8);
        Check.due("15: that run is told still", x.told(3), 0);
        Check.due("15: and what it put out", x.out(1, 0), 10);
    }

    private static void laysNothing() {
        Edge.refused("15: there are no ACTS", Made.NEW, x -> x.lay(), -2);
        GateMaker x = Made.RAN_LAID.make();
        while (x.count(0) > 0) {
            x.drop();
        }
        Check.due("15: there are no ACTS any more", x.lay(), -2);
        Check.due("15: so nothing is laid", x.registers(), -3);
        GateMaker y = new GateMaker();
        y.constant(1, 8);
        Check.due("15: one CONST takes no TICKS", y.lay(), 0);
        Check.due("15: yet it is laid", y.registers(), 0);
        Check.due("15: at TICK 0", y.tick(0, 0), 0);
        GateMaker z = new GateMaker();
        z.port(0, -1, 8);
        Check.due("15: one IN takes one TICK", z.lay(), 1);
    }

    private static void laysFromTickZero() {
        GateMaker x = new GateMaker();
        x.constant(1, 8);
        x.reckon(5, 0, 0, 8);
        x.reckon(2, 1, 0, 8);
        x.reckon(2, 0, 0, 8);
        x.constant(2, 8);
        x.pick(0, 4, 4, 8);
        Check.due("15: ALL TICKS", x.lay(), 5);
        ticks("15: an ACT that waits for none", x, 0, 0, 4, 0, 0, 0);
        Check.due("15: it is not the last ACT that ends last", x.tick(5, 0), 0);
    }

    private static void ticks(String what, GateMaker x, int... due) {
        for (int a = 0; a < due.length; a++) {
            Check.due(what + ": TICK of ACT " + a, x.tick(a, 0), due[a]);
        }
    }

    /** ADDERS of LENGTH 2; INS at TICKS 0, 1, .. make an ADD wait until a TICK that is asked for. */
    private static GateMaker addersBusyFrom(int tick, boolean piped) {
        GateMaker x = new GateMaker();
        x.length(0, 2, piped);
        for (int i = 0; i < tick; i++) {
            x.port(0, -1, 8);
        }
        int number = x.constant(1, 8);
        x.reckon(2, number, number, 8);
        x.reckon(2, tick - 1, tick - 1, 8);
        x.reckon(2, number, number, 8);
        x.lay();
        return x;
    }

    private static void fillsAGapThatIsLongEnough() {
        GateMaker fits = addersBusyFrom(4, false);
        Check.due("15: an ADD fills TICKS 0 and 1", fits.tick(5, 0), 0);
        Check.due("15: an ADD fills TICKS 4 and 5", fits.tick(6, 0), 4);
        Check.due("15: the gap of 2 is just long enough", fits.tick(7, 0), 2);
        GateMaker not = addersBusyFrom(3, false);
        Check.due("15: an ADD fills TICKS 3 and 4", not.tick(5, 0), 3);
        Check.due("15: the gap of 1 is too short by one", not.tick(6, 0), 5);
        GateMaker none = addersBusyFrom(2, false);
        Check.due("15: an ADD fills TICKS 2 and 3", none.tick(4, 0), 2);
        Check.due("15: there is no gap", none.tick(5, 0), 4);
    }

    private static void fillsAPipedGap() {
        GateMaker x = addersBusyFrom(2, true);
        Check.due("15: PIPED, TICK 0 is filled", x.tick(3, 0), 0);
        Check.due("15: PIPED, TICK 2 is filled", x.tick(4, 0), 2);
        Check.due("15: PIPED, TICK 1 is free", x.tick(5, 0), 1);
        GateMaker y = new GateMaker();
        y.length(2, 8, true);
        y.constant(1, 8);
        y.reckon(5, 0, 0, 8);
        y.reckon(5, 0, 0, 8);
        y.reckon(5, 0, 1, 8);
        Check.due("15: PIPED, ALL TICKS", y.lay(), 16);
        ticks("15: PIPED", y, 0, 0, 1, 8);
    }

    /** Two ADDERS of LENGTH 2, the second of which is free from TICK 3 on and the first from 2. */
    private static void takesTheLeastPart() {
        GateMaker x = new GateMaker();
        x.length(0, 2, false);
        x.parts(0, 2);
        int number = x.constant(1, 8);
        int in = x.port(0, -1, 8);
        int first = x.reckon(2, number, number, 8);
        int second = x.reckon(2, in, in, 8);
        int third = x.reckon(2, in, number, 8);
        int fourth = x.reckon(2, number, in, 8);
        x.lay();
        int[] acts = {first, second, third, fourth};
        int[] due = {0, 1, 2, 3};
        int[] parts = {0, 1, 0, 1};
        for (int i = 0; i < acts.length; i++) {
            Check.due("15: TICK of ADD " + i, x.tick(acts[i], 0), due[i]);
            Check.due("15: of free PARTS the least: ADD " + i, x.tick(acts[i], 1), parts[i]);
        }
    }

    private static void waitsForOneOfFour() {
        GateMaker x = new GateMaker();
        x.parts(2, 4);
        x.constant(1, 8);
        for (int i = 0; i < 5; i++) {
            x.reckon(5, 0, 0, 8);
        }
        Check.due("15: four begin at once, the fifth waits", x.lay(), 8);
        ticks("15: four PARTS", x, 0, 0, 0, 0, 0, 4);
        int[] parts = {-2, 0, 1, 2, 3, 0};
        for (int a = 0; a < parts.length; a++) {
            Check.due("15: PART of ACT " + a, x.tick(a, 1), parts[a]);
        }
        x.parts(2, 3);
        x.lay();
        ticks("15: three PARTS", x, 0, 0, 0, 0, 4, 4);
    }

    private static void laysTheMost() {
        GateMaker shared = new GateMaker();
        GateMaker chained = new GateMaker();
        shared.length(2, 8, false);
        chained.length(2, 8, true);
        shared.constant(1, 8);
        chained.constant(1, 8);
        for (int i = 0; i < 15; i++) {
            shared.reckon(5, 0, 0, 8);
            chained.reckon(5, i, i, 8);
        }
        Check.due("15: 15 of LENGTH 8 on one PART", shared.lay(), 120);
        Check.due("15: the last of them", shared.tick(15, 0), 112);
        Check.due("20: it is found there", shared.at(112, 0), 15);
        Check.due("15: 15 of LENGTH 8 behind one another", chained.lay(), 120);
        Check.due("15: the last of these", chained.tick(15, 0), 112);
        Check.due("15: ALL TICKS of a run", chained.run(true), 0);
        Check.due("22: 120 TICKS", chained.told(3), 120);
    }

    private static void laysAgain() {
        GateMaker x = Made.RAN_LAID.make();
        int ticks = x.lay();
        Check.due("15: again the same", x.lay(), ticks);
        Edge.asked("15: to lay what is laid changes nothing", Made.RAN_LAID, y -> y.lay(), 8);
        x.length(2, 8, false);
        Check.due("15: laid anew", x.lay(), 13);
        x.length(2, 3, true);
        Check.due("15: and as before", x.lay(), ticks);
    }

    private static void tickRefusals() {
        for (int act : new int[] {LOW, -2, -1, 16, HIGH}) {
            Edge.refusedAlways("16: ACT " + act, x -> x.tick(act, 0), -1);
        }
        for (int what : new int[] {LOW, -1, 7, HIGH}) {
            Edge.refusedAlways("16: what " + what, x -> x.tick(0, what), -1);
        }
        Edge.refusedAlways("16: one beyond the last ACT", x -> x.tick(x.count(0), 0), -1);
        for (int what = 0; what <= 6; what++) {
            int asked = what;
            Edge.refused("16: nothing is laid, what " + what, Made.UNLAID, x -> x.tick(0, asked), -3);
            Edge.refused("16: nor by a PLAIN run, what " + what, Made.RAN_PLAIN, x -> x.tick(5, asked), -3);
        }
        Edge.asked("16: the first ACT", Made.FULL, x -> x.tick(0, 0), 0);
        Edge.asked("16: the last ACT", Made.FULL, x -> x.tick(15, 0), 0);
        Edge.asked("16: the last what", Made.LAID, x -> x.tick(3, 6), 7);
    }

    private static void justBehind() {
        GateMaker x = new GateMaker();
        int number = x.constant(1, 8);
        int sum = x.reckon(2, number, number, 8);
        int late = x.reckon(2, number, number, 8);
        int product = x.reckon(4, number, number, 8);
        int pick = x.pick(sum, late, product, 8);
        int other = x.pick(sum, product, product, 8);
        int behind = x.pick(sum, sum, sum, 8);
        x.lay();
        Check.due("16: k is 0 of a CONST, so none", x.tick(sum, 2), -2);
        Check.due("16: it waited for a PART alone", x.tick(late, 2), -2);
        Check.due("16: an ACT without NEEDS", x.tick(number, 2), -2);
        Check.due("16: of two the least", x.tick(pick, 2), late);
        Check.due("16: not one that was over earlier by one", x.tick(other, 2), product);
        Check.due("16: just behind", x.tick(behind, 2), sum);
        GateMaker y = new GateMaker();
        int in = y.port(0, -1, 8);
        y.pick(in, in, in, 8);
        y.lay();
        Check.due("16: just behind ACT 0", y.tick(1, 2), in);
    }

    private static void laterThanNeeded() {
        GateMaker x = new GateMaker();
        int number = x.constant(1, 8);
        int in = x.port(0, -1, 8);
        int first = x.reckon(2, in, number, 8);
        int second = x.reckon(2, in, number, 8);
        int free = x.reckon(2, number, number, 8);
        int waits = x.reckon(2, number, number, 8);
        x.lay();
        Check.due("16: at the TICK that NEEDS ask for", x.tick(first, 3), 0);
        Check.due("16: later by one", x.tick(second, 3), 1);
        Check.due("16: then it is just behind none", x.tick(second, 2), -2);
        Check.due("16: no NEEDS, at TICK 0", x.tick(free, 3), 0);
        Check.due("16: no NEEDS, later", x.tick(waits, 3), 1);
        Check.due("16: a CONST is never later", x.tick(number, 3), 0);
    }

    private static void partsOfActs() {
        int[] due = {-2, -2, 0, 0, 0, -2, 0, -2, 0, 0, 0, -2, -2, 0, -2, -2};
        for (int a = 0; a < due.length; a++) {
            int act = a;
            Edge.asked("16: PART of ACT " + a, Made.FULL, x -> x.tick(act, 1), due[a]);
        }
    }

    private static void life(String what, GateMaker x, int act, int register, int first, int last) {
        Check.due("16: " + what + ": REGISTER", x.tick(act, 4), register);
        Check.due("16: " + what + ": lives from", x.tick(act, 5), first);
        Check.due("16: " + what + ": lives to", x.tick(act, 6), last);
    }

    private static void lives() {
        GateMaker x = new GateMaker();
        int number = x.constant(1, 8);
        int in = x.port(0, -1, 8);
        int sum = x.reckon(2, in, number, 8);
        int product = x.reckon(4, in, in, 8);
        int out = x.port(1, sum, 8);
        int pick = x.pick(out, product, sum, 8);
        x.lay();
        life("a CONST has none", x, number, -2, -2, -2);
        life("at one TICK alone", x, in, 0, 1, 1);
        life("from one TICK to the latest", x, sum, 0, 2, 3);
        life("a LENGTH of 2", x, product, 1, 3, 3);
        life("an OUT that is an operand", x, out, 2, 3, 3);
        life("no operand of any", x, pick, -2, -2, -2);
        Check.due("18: three at TICK 3", x.registers(), 3);
    }

    /** One NUMBER lives to TICK 2; another from TICK 2, and a third from TICK 3 on. */
    private static void sharesRegisters() {
        GateMaker x = new GateMaker();
        int in = x.port(0, -1, 8);
        int next = x.port(0, -1, 8);
        int sum = x.reckon(2, in, next, 8);
        int less = x.reckon(3, sum, sum, 8);
        int pick = x.pick(less, less, less, 8);
        x.lay();
        life("lives to TICK 2", x, in, 0, 1, 2);
        life("one TICK in common: another REGISTER", x, next, 1, 2, 2);
        life("from TICK 3, so it may have the first", x, sum, 0, 3, 3);
        life("from TICK 4", x, less, 0, 4, 4);
        life("the last", x, pick, -2, -2, -2);
        Check.due("18: two REGISTERS for four NUMBERS", x.registers(), 2);
    }

    /** ACT 1 is before ACT 2 by number, but its NUMBER lives from a later TICK on. */
    private static void givesRegistersInOrder() {
        GateMaker x = new GateMaker();
        x.parts(0, 2);
        int number = x.constant(1, 8);
        int product = x.reckon(4, number, number, 8);
        int sum = x.reckon(2, number, number, 8);
        int same = x.reckon(2, number, number, 8);
        int pick = x.pick(product, sum, same, 8);
        x.lay();
        life("from TICK 1, by number the first", x, sum, 0, 1, 2);
        life("from TICK 1, by number the second", x, same, 1, 1, 2);
        life("from TICK 2, though its number is the least", x, product, 2, 2, 2);
        life("no operand", x, pick, -2, -2, -2);
        Check.due("18: three", x.registers(), 3);
    }

    private static void boundRefusals() {
        for (int what : new int[] {LOW, -1, 6, HIGH}) {
            Edge.refusedAlways("17: what " + what, x -> x.bound(what), -1);
        }
        for (int what = 0; what <= 5; what++) {
            int asked = what;
            Edge.asked("17: 0 without ACTS, what " + what, Made.NEW, x -> x.bound(asked), 0);
        }
        Edge.asked("17: nothing need be laid", Made.UNLAID, x -> x.bound(0), 8);
        Edge.asked("17: what was laid stays", Made.RAN_LAID, x -> x.bound(0), 8);
        Edge.asked("17: the last what", Made.RAN_LAID, x -> x.bound(5), 8);
        GateMaker x = new GateMaker();
        x.constant(1, 8);
        for (int what = 0; what <= 5; what++) {
            Check.due("17: a CONST alone, what " + what, x.bound(what), 0);
        }
    }

    private static void boundsRoundUp() {
        int[] ops = {2, 4, 5, 8};
        for (int kind = 0; kind < 4; kind++) {
            for (int n = 1; n <= 4; n++) {
                GateMaker x = new GateMaker();
                x.length(kind, 3, false);
                x.parts(kind, n);
                x.constant(1, 8);
                for (int acts = 1; acts <= 5; acts++) {
                    addOn(x, ops[kind]);
                    int due = 3 * acts % n == 0 ? 3 * acts / n : 3 * acts / n + 1;
                    Check.due("17: " + 3 * acts + " TICKS on " + n + " of kind " + kind, x.bound(1 + kind), due);
                    Check.due("17: of another kind none", x.bound(1 + (kind + 1) % 4), 0);
                    Check.due("17: the greatest of these", x.bound(5), Math.max(due, 3));
                }
                x.length(kind, 3, true);
                Check.due("17: PIPED, 5 TICKS on " + n, x.bound(1 + kind), new int[] {5, 3, 2, 2}[n - 1]);
            }
        }
    }

    private static void addOn(GateMaker x, int op) {
        if (op == 8) {
            x.touch(0, -1, 8);
        } else {
            x.reckon(op, 0, 0, 8);
        }
    }

    private static void boundsWithAllParts() {
        GateMaker x = new GateMaker();
        x.length(2, 8, false);
        x.constant(1, 8);
        for (int i = 1; i < 16; i++) {
            x.reckon(5, 0, 0, 8);
        }
        Check.due("17: PARTS for all 15, though there is one", x.bound(0), 8);
        Check.due("17: 15 times 8 on one PART", x.bound(3), 120);
        Check.due("17: the greatest", x.bound(5), 120);
        x.parts(2, 4);
        Check.due("17: on four PARTS", x.bound(3), 30);
        Check.due("17: as before with PARTS for all", x.bound(0), 8);
        GateMaker y = new GateMaker();
        y.constant(1, 8);
        y.touch(0, 0, 8);
        y.touch(0, 0, 8);
        Check.due("17: what must wait still waits", y.bound(0), 2);
        GateMaker z = new GateMaker();
        z.port(0, -1, 8);
        Check.due("17: one IN alone", z.bound(0), 1);
        Check.due("17: one IN alone, the greatest", z.bound(5), 1);
    }

    private static void registers() {
        for (Made made : NOT_LAID) {
            Edge.refused("18: nothing is laid", made, x -> x.registers(), -3);
        }
        GateMaker x = new GateMaker();
        x.constant(1, 8);
        x.pick(0, 0, 0, 8);
        x.lay();
        Check.due("18: none, only a CONST is an operand", x.registers(), 0);
        GateMaker y = new GateMaker();
        for (int i = 0; i < 12; i++) {
            y.port(0, -1, 8);
        }
        for (int i = 0; i < 4; i++) {
            y.pick(i, 4 + i, 11, 8);
        }
        y.lay();
        Check.due("18: nine live at TICK 12", y.registers(), 9);
        Check.due("18: no operand, none", y.tick(8, 4), -2);
        Check.due("18: the last REGISTER", y.tick(11, 4), 8);
        y.drop();
        y.lay();
        Check.due("18: two fewer are operands now", y.registers(), 7);
    }

    private static void chooserRefusals() {
        for (int kind : NO_KINDS) {
            Edge.refusedAlways("19: kind " + kind, x -> x.chooser(kind, 0, false), -1);
        }
        for (int kind = 0; kind < 4; kind++) {
            int good = kind;
            for (int part : new int[] {LOW, -1, 2, 3, 4, HIGH}) {
                Edge.refusedAlways("19: PART " + part + " of kind " + kind, x -> x.chooser(good, part, true), -1);
            }
            for (Made made : NOT_LAID) {
                Edge.refused("19: nothing is laid, kind " + kind, made, x -> x.chooser(good, 0, false), -3);
                Edge.refused("19: -1 is before -3, kind " + kind, made, x -> x.chooser(good, 2, false), -1);
            }
        }
        Edge.refusedAlways("19: one beyond the only PART", x -> x.chooser(0, 1, false), -1);
        Edge.asked("19: the last of two PARTS, no ACTS on it", Made.RAN_LAID, x -> x.chooser(1, 1, false), 0);
        Edge.asked("19: of no ACTS", Made.RAN_LAID, x -> x.chooser(0, 0, true), 0);
        GateMaker x = new GateMaker();
        x.parts(3, 4);
        x.constant(1, 8);
        x.lay();
        Check.due("19: PART 3 of four", x.chooser(3, 3, false), 0);
        Check.due("19: no PART 4", x.chooser(3, 4, false), -1);
    }

    private static void choosers() {
        GateMaker x = new GateMaker();
        int one = x.constant(7, 8);
        int two = x.constant(7, 8);
        int in = x.port(0, -1, 8);
        int next = x.port(0, -1, 8);
        x.reckon(2, one, one, 8);
        x.lay();
        Check.due("19: one SOURCE", x.chooser(0, 0, false), 1);
        x.reckon(3, one, two, 8);
        x.lay();
        Check.due("19: the same CONST twice is one SOURCE", x.chooser(0, 0, false), 1);
        Check.due("19: two CONSTS of one number are two", x.chooser(0, 0, true), 2);
        x.reckon(6, in, in, 8);
        x.reckon(6, next, one, 8);
        x.lay();
        Check.due("19: two NUMBERS in unlike REGISTERS", x.chooser(0, 0, false), 3);
        Check.due("19: and of y", x.chooser(0, 0, true), 3);
        Check.due("19: the REGISTERS are unlike", x.tick(in, 4) == x.tick(next, 4) ? 1 : 0, 0);
        GateMaker y = new GateMaker();
        int first = y.port(0, -1, 8);
        int sum = y.reckon(2, first, first, 8);
        y.reckon(2, sum, first, 8);
        y.reckon(2, y.reckon(2, sum, sum, 8), sum, 8);
        y.lay();
        Check.due("19: two NUMBERS in two REGISTERS, three ACTS", y.chooser(0, 0, false), 2);
        sharedSource();
        constsAndRegisters();
        doorsChoose();
    }

    /** Whatever the CONST's number and the REGISTER's are, they are two SOURCES. */
    private static void constsAndRegisters() {
        for (int number = 5; number < 15; number++) {
            for (int in = 0; in < 3; in++) {
                GateMaker x = new GateMaker();
                for (int i = 0; i < 3; i++) {
                    x.port(0, -1, 8);
                }
                x.pick(0, 1, 2, 8);
                x.reckon(2, in, in, 8);
                for (int i = 5; i <= number; i++) {
                    x.constant(1, 8);
                }
                x.reckon(2, number, in, 8);
                x.lay();
                Check.due("19: CONST " + number + ", REGISTER " + x.tick(in, 4), x.chooser(0, 0, false), 2);
                Check.due("19: that REGISTER alone", x.chooser(0, 0, true), 1);
            }
        }
    }

    private static void sharedSource() {
        GateMaker x = new GateMaker();
        int in = x.port(0, -1, 8);
        int sum = x.reckon(2, in, in, 8);
        x.reckon(2, sum, sum, 8);
        x.lay();
        Check.due("19: both are in REGISTER 0", x.tick(in, 4) + x.tick(sum, 4), 0);
        Check.due("19: two NUMBERS in one REGISTER are one SOURCE", x.chooser(0, 0, false), 1);
    }

    private static void doorsChoose() {
        GateMaker x = new GateMaker();
        int place = x.constant(1, 8);
        x.touch(place, -1, 8);
        x.lay();
        Check.due("19: a FETCH has an x", x.chooser(3, 0, false), 1);
        Check.due("19: a FETCH has no y", x.chooser(3, 0, true), 0);
        x.touch(place, place, 8);
        x.lay();
        Check.due("19: a STORE has a y", x.chooser(3, 0, true), 1);
        GateMaker y = new GateMaker();
        int number = y.constant(1, 8);
        y.pick(number, number, number, 8);
        y.port(0, number, 8);
        y.lay();
        for (int kind = 0; kind < 4; kind++) {
            Check.due("19: PICK and OUT are on no PART", y.chooser(kind, 0, false), 0);
        }
    }

    private static void atRefusals() {
        for (int below : new int[] {LOW, -2, -1}) {
            Edge.refusedAlways("20: TICK " + below, x -> x.at(below, 0), -1);
            Edge.refusedAlways("20: i " + below, x -> x.at(0, below), -1);
        }
        for (Made made : NOT_LAID) {
            Edge.refused("20: nothing is laid", made, x -> x.at(0, 0), -3);
            Edge.refused("20: -3 where there would not be so many", made, x -> x.at(99, 99), -3);
            Edge.refused("20: -1 is before -3", made, x -> x.at(-1, 0), -1);
        }
    }

    private static void ats() {
        Edge.asked("20: the first at TICK 0", Made.LAID, x -> x.at(0, 0), 0);
        Edge.asked("20: the last at TICK 0", Made.LAID, x -> x.at(0, 1), 1);
        Edge.asked("20: one beyond them", Made.LAID, x -> x.at(0, 2), -2);
        Edge.asked("20: at the last TICK at which one begins", Made.LAID, x -> x.at(7, 0), 5);
        Edge.asked("20: one beyond it", Made.LAID, x -> x.at(7, 1), -2);
        Edge.asked("20: at ALL TICKS none begins", Made.LAID, x -> x.at(8, 0), -2);
        Edge.asked("20: the greatest TICK", Made.LAID, x -> x.at(HIGH, 0), -2);
        Edge.asked("20: the greatest i", Made.LAID, x -> x.at(0, HIGH), -2);
        GateMaker x = new GateMaker();
        for (int i = 0; i < 16; i++) {
            x.constant(i, 8);
        }
        x.lay();
        Check.due("20: all 16 at one TICK", x.at(0, 15), 15);
        Check.due("20: not 17", x.at(0, 16), -2);
        x.drop();
        x.lay();
        Check.due("20: the dropped one is not there", x.at(0, 15), -2);
    }
}
