/** Promises 8, 9 and 15 to 20: parts and lengths, and what is laid. */
public final class PlanTest {
    public static void main(String[] args) {
        parts();
        lengths();
        takesAway();
        lays();
        fillsGaps();
        pipes();
        ticks();
        lives();
        livesAtOnce();
        forgetsDropped();
        bounds();
        registers();
        choosers();
        ats();
        Check.end();
    }

    private static void due(String what, GateMaker x, int asked, int... want) {
        for (int a = 0; a < want.length; a++) {
            Check.due(what + " of ACT " + a, x.tick(a, asked), want[a]);
        }
    }

    private static void parts() {
        GateMaker x = new GateMaker();
        for (int kind = 0; kind < 4; kind++) {
            Check.due("8: there was 1", x.parts(kind, 4), 1);
            Check.due("8: there were 4", x.parts(kind, 1), 4);
            Check.due("8: n 0", x.parts(kind, 0), -1);
            Check.due("8: n 5", x.parts(kind, 5), -1);
            Check.due("8: nothing changed", x.count(3 + kind), 1);
        }
        Check.due("8: kind -1", x.parts(-1, 1), -1);
        Check.due("8: kind 4", x.parts(4, 1), -1);
    }

    private static void lengths() {
        GateMaker x = new GateMaker();
        x.constant(1, 8);
        x.reckon(2, 0, 0, 8);
        Check.due("9: it was 1", x.length(0, 8, false), 1);
        Check.due("9: of an ACT", x.act(1, 6), 8);
        Check.due("9: n 0", x.length(0, 0, true), -1);
        Check.due("9: n 9", x.length(0, 9, true), -1);
        Check.due("9: kind -1", x.length(-1, 1, true), -1);
        Check.due("9: kind 4", x.length(4, 1, true), -1);
        Check.due("9: nothing changed", x.bound(1), 8);
        Check.due("9: it was 8", x.length(0, 8, true), 8);
        Check.due("9: PIPED", x.bound(1), 1);
        Check.due("9: no longer", x.length(0, 8, false), 8);
        Check.due("9: not PIPED", x.bound(1), 8);
    }

    private static GateMaker laidAndRun() {
        GateMaker x = new GateMaker();
        x.constant(1, 8);
        x.port(0, -1, 8);
        x.reckon(2, 0, 1, 8);
        x.feed(0, 5);
        x.lay();
        x.run(true);
        return x;
    }

    private static void gone(String what, GateMaker x) {
        Check.due(what + ": what was laid", x.tick(0, 0), -3);
        Check.due(what + ": the run", x.told(0), -3);
    }

    private static void stays(String what, GateMaker x) {
        Check.due(what + ": what was laid", x.tick(0, 0), 0);
        Check.due(what + ": the run", x.told(0), 0);
    }

    private static void takesAway() {
        GateMaker x = laidAndRun();
        x.parts(0, 5);
        x.length(0, 9, true);
        x.constant(1, 0);
        x.port(4, -1, 8);
        x.reckon(7, 0, 0, 8);
        x.pick(0, 0, 3, 8);
        x.touch(3, -1, 8);
        x.feed(0, 1);
        x.feed(4, 1);
        x.place(0, 1);
        x.keep(0, 1, 9);
        x.lay();
        stays("refused calls, feed and place", x);
        x.parts(0, 2);
        gone("8", x);
        x = laidAndRun();
        x.length(0, 2, true);
        gone("9", x);
        x = laidAndRun();
        x.constant(1, 1);
        gone("2", x);
        x = laidAndRun();
        x.port(0, 0, 1);
        gone("3", x);
        x = laidAndRun();
        x.reckon(2, 0, 0, 1);
        gone("4", x);
        x = laidAndRun();
        x.pick(0, 0, 0, 1);
        gone("5", x);
        x = laidAndRun();
        x.touch(0, 0, 1);
        gone("6", x);
        x = laidAndRun();
        x.drop();
        gone("7", x);
    }

    private static void lays() {
        GateMaker x = new GateMaker();
        Check.due("15: no ACTS", x.lay(), -2);
        x.constant(1, 8);
        Check.due("15: CONSTS take no TICKS", x.lay(), 0);
        x.reckon(5, 0, 0, 8);
        x.reckon(5, 0, 0, 8);
        x.reckon(5, 0, 0, 8);
        Check.due("15: one divider", x.lay(), 12);
        due("15: one divider: TICK", x, 0, 0, 0, 4, 8);
        Check.due("15: again", x.lay(), 12);
        x.parts(2, 2);
        Check.due("15: two dividers", x.lay(), 8);
        due("15: two dividers: TICK", x, 0, 0, 0, 0, 4);
        due("16: two dividers: PART", x, 1, -2, 0, 1, 0);
        x.parts(2, 4);
        Check.due("15: four dividers", x.lay(), 4);
        due("16: four dividers: PART", x, 1, -2, 0, 1, 2);
        x.length(2, 8, false);
        Check.due("15: longer", x.lay(), 8);
    }

    private static void fillsGaps() {
        GateMaker x = new GateMaker();
        x.length(0, 2, false);
        x.constant(1, 8);
        x.reckon(4, 0, 0, 8);
        x.reckon(4, 1, 1, 8);
        x.reckon(2, 2, 2, 8);
        x.reckon(2, 0, 0, 8);
        x.reckon(3, 0, 0, 8);
        x.reckon(6, 0, 0, 8);
        Check.due("15: gaps", x.lay(), 8);
        due("15: TICK", x, 0, 0, 0, 2, 4, 0, 2, 6);
        due("16: later than needed", x, 3, 0, 0, 0, 0, 0, 1, 1);
    }

    private static void pipes() {
        GateMaker x = new GateMaker();
        x.length(2, 5, true);
        x.constant(1, 8);
        x.reckon(5, 0, 0, 8);
        x.reckon(5, 0, 0, 8);
        x.reckon(5, 1, 2, 8);
        Check.due("9: PIPED", x.lay(), 11);
        due("9: TICK", x, 0, 0, 0, 1, 6);
        due("9: PART", x, 1, -2, 0, 0, 0);
    }

    private static void ticks() {
        GateMaker x = new GateMaker();
        Check.due("16: no ACT", x.tick(0, 0), -1);
        x.port(0, -1, 8);
        x.port(1, -1, 8);
        x.reckon(2, 0, 1, 8);
        x.reckon(2, 0, 1, 8);
        x.port(2, 3, 8);
        x.constant(1, 8);
        Check.due("16: not laid", x.tick(0, 0), -3);
        Check.due("16: not laid, -2 is none", x.tick(5, 4), -3);
        Check.due("16: -1 is before -3", x.tick(6, 0), -1);
        Check.due("16: what 7 before -3", x.tick(0, 7), -1);
        x.lay();
        due("16: TICK", x, 0, 0, 1, 2, 3, 4, 0);
        due("16: PART", x, 1, -2, -2, 0, 0, -2, -2);
        due("16: just behind", x, 2, -2, 0, 1, -2, 3, -2);
        due("16: later", x, 3, 0, 0, 0, 1, 0, 0);
        due("16: REGISTER", x, 4, 0, 1, -2, 0, -2, -2);
        due("16: lives from", x, 5, 1, 2, -2, 4, -2, -2);
        due("16: lives to", x, 6, 3, 3, -2, 4, -2, -2);
        Check.due("16: what -1", x.tick(0, -1), -1);
        Check.due("16: what 7", x.tick(0, 7), -1);
        Check.due("16: act -1", x.tick(-1, 0), -1);
    }

    private static void lives() {
        GateMaker x = new GateMaker();
        x.constant(3, 8);
        x.reckon(2, 0, 0, 8);
        x.reckon(2, 0, 0, 8);
        x.reckon(4, 1, 2, 8);
        x.reckon(4, 2, 2, 8);
        x.reckon(3, 3, 4, 8);
        x.reckon(3, 5, 1, 8);
        x.lay();
        due("16: TICK", x, 0, 0, 0, 1, 2, 4, 6, 7);
        due("16: lives from", x, 5, -2, 1, 2, 4, 6, 7, -2);
        due("16: lives to", x, 6, -2, 7, 4, 6, 6, 7, -2);
        due("16: REGISTER, one TICK in common is too much", x, 4, -2, 0, 1, 2, 1, 1, -2);
        Check.due("18: three", x.registers(), 3);
    }

    private static void livesAtOnce() {
        GateMaker x = new GateMaker();
        x.parts(0, 3);
        x.constant(3, 8);
        x.reckon(2, 0, 0, 8);
        x.reckon(2, 0, 0, 8);
        x.reckon(2, 1, 2, 8);
        x.lay();
        due("16: lives from", x, 5, -2, 1, 1, -2);
        due("16: lives to", x, 6, -2, 1, 1, -2);
        due("16: REGISTER, by number", x, 4, -2, 0, 1, -2);
        Check.due("18: two", x.registers(), 2);
    }

    private static void forgetsDropped() {
        GateMaker x = new GateMaker();
        x.constant(3, 8);
        x.reckon(2, 0, 0, 8);
        x.reckon(2, 0, 0, 8);
        x.port(0, 2, 8);
        x.port(0, 2, 8);
        x.lay();
        Check.due("18: of ACT 2", x.registers(), 1);
        x.drop();
        x.drop();
        x.drop();
        x.lay();
        Check.due("18: none is left", x.registers(), 0);
        x.port(0, 1, 8);
        x.drop();
        x.port(1, 1, 8);
        x.lay();
        due("16: REGISTER", x, 4, -2, 0, -2);
        Check.due("20: nor at a TICK", x.at(1, 1), -2);
    }

    private static void bounds() {
        GateMaker x = new GateMaker();
        for (int what = 0; what <= 5; what++) {
            Check.due("17: without ACTS", x.bound(what), 0);
        }
        Check.due("17: -1", x.bound(-1), -1);
        Check.due("17: 6", x.bound(6), -1);
        x.constant(1, 8);
        for (int i = 0; i < 5; i++) {
            x.reckon(5, 0, 0, 8);
        }
        x.reckon(2, 1, 2, 8);
        x.reckon(6, 0, 0, 8);
        x.reckon(4, 0, 0, 8);
        x.touch(0, -1, 8);
        int[] one = {5, 2, 2, 20, 1, 20};
        for (int what = 0; what <= 5; what++) {
            Check.due("17: bound(" + what + ")", x.bound(what), one[what]);
        }
        x.parts(2, 3);
        Check.due("17: rounded up", x.bound(3), 7);
        Check.due("17: greatest", x.bound(5), 7);
        x.length(2, 4, true);
        Check.due("17: PIPED", x.bound(3), 2);
        Check.due("17: greatest is of all PARTS", x.bound(5), 5);
        Check.due("17: with PARTS for all", x.bound(0), 5);
    }

    private static void registers() {
        GateMaker x = new GateMaker();
        Check.due("18: no ACTS", x.registers(), -3);
        x.constant(1, 8);
        x.reckon(2, 0, 0, 8);
        Check.due("18: not laid", x.registers(), -3);
        x.lay();
        Check.due("18: nothing lives", x.registers(), 0);
        x.port(0, 1, 8);
        x.lay();
        Check.due("18: one", x.registers(), 1);
    }

    private static void choosers() {
        GateMaker x = new GateMaker();
        Check.due("19: not laid", x.chooser(0, 0, false), -3);
        Check.due("19: PART 1", x.chooser(0, 1, false), -1);
        Check.due("19: PART -1", x.chooser(0, -1, false), -1);
        Check.due("19: kind -1", x.chooser(-1, 0, false), -1);
        Check.due("19: kind 4", x.chooser(4, 0, false), -1);
        x.constant(1, 8);
        x.constant(1, 8);
        x.reckon(2, 0, 1, 8);
        x.reckon(2, 1, 1, 8);
        x.reckon(2, 2, 1, 8);
        x.reckon(2, 4, 3, 8);
        x.touch(0, -1, 8);
        x.touch(1, 0, 8);
        x.lay();
        due("19: REGISTERS", x, 4, -2, -2, 0, 1, 0, -2, -2, -2);
        Check.due("19: x: two CONSTS, one REGISTER", x.chooser(0, 0, false), 3);
        Check.due("19: y: a CONST and a REGISTER", x.chooser(0, 0, true), 2);
        Check.due("19: doors x", x.chooser(3, 0, false), 2);
        Check.due("19: doors y, of the STORE alone", x.chooser(3, 0, true), 1);
        Check.due("19: of no ACTS", x.chooser(1, 0, true), 0);
        Check.due("19: there is no PART 1", x.chooser(3, 1, true), -1);
        x.parts(0, 2);
        x.lay();
        Check.due("19: x of PART 0", x.chooser(0, 0, false), 2);
        Check.due("19: x of PART 1", x.chooser(0, 1, false), 1);
        Check.due("19: there is no PART 2", x.chooser(0, 2, false), -1);
    }

    private static void ats() {
        GateMaker x = new GateMaker();
        Check.due("20: not laid", x.at(0, 0), -3);
        Check.due("20: -1 is before -3", x.at(-1, 0), -1);
        x.constant(1, 8);
        x.reckon(2, 0, 0, 8);
        x.reckon(2, 0, 0, 8);
        x.constant(1, 8);
        x.reckon(4, 0, 0, 8);
        Check.due("20: not laid yet", x.at(0, 0), -3);
        x.lay();
        int[] first = {0, 1, 3, 4, -2};
        for (int i = 0; i < first.length; i++) {
            Check.due("20: at(0, " + i + ")", x.at(0, i), first[i]);
        }
        Check.due("20: TICK 1", x.at(1, 0), 2);
        Check.due("20: TICK 1, one more", x.at(1, 1), -2);
        Check.due("20: TICK 2", x.at(2, 0), -2);
        Check.due("20: far", x.at(Integer.MAX_VALUE, Integer.MAX_VALUE), -2);
        Check.due("20: TICK -1", x.at(-1, 0), -1);
        Check.due("20: i -1", x.at(0, -1), -1);
    }
}
