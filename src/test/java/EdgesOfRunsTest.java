/** The edges that the document names in promises 10, 11 and 21 to 25, each by its own case. */
public final class EdgesOfRunsTest {
    private static final int LOW = Edge.LOW;
    private static final int HIGH = Edge.HIGH;
    private static final int[] NO_PORTS = {LOW, -1, 4, HIGH};
    private static final int[] NO_PLACES = {LOW, -1, 16, HIGH};
    /** The states in which there was no run. */
    private static final Made[] NO_RUN = {Made.NEW, Made.UNLAID, Made.LAID};

    public static void main(String[] args) {
        feedRefusals();
        feeds();
        places();
        runRefusals();
        runsLeaveWhatWasTold();
        wrapsAround();
        wrapsAtEachWidth();
        keepsAllBitsOfTheRow();
        dividesTowardsZero();
        comparesByOne();
        picksByZero();
        failsByZero();
        failsBeyondTheRow();
        failsWithNothingLeft();
        failsOfOneAct();
        endsAtTheFirstFailure();
        theLeastFailureCounts();
        theLatestRunCounts();
        toldRefusals();
        told();
        outRefusals();
        outs();
        rows();
        the512thCall();
        Check.end();
    }

    private static void feedRefusals() {
        for (int port : NO_PORTS) {
            Edge.refusedAlways("10: PORT " + port, x -> x.feed(port, 1), -1);
        }
        for (int port = 0; port < 4; port++) {
            GateMaker x = new GateMaker();
            for (int i = 1; i <= 19; i++) {
                x.feed(port, i);
            }
            Check.due("10: the 20th of PORT " + port, x.feed(port, 20), 20);
            Check.due("10: there are 20", x.feed(port, 21), -2);
            Check.due("10: there are 20 still", x.feed(port, 22), -2);
            Check.due("10: -1 is before -2", x.feed(4, 22), -1);
            Check.due("10: 20 in all", x.count(2), 20);
            Check.due("10: another PORT has none", x.feed((port + 1) % 4, 5), 1);
            fedAsTold(x, port);
        }
    }

    /** Of 16 ACTS one is an OUT, so 15 numbers can come in and any one of them be seen. */
    private static void fedAsTold(GateMaker x, int port) {
        for (int i = 0; i < 15; i++) {
            x.port(port, -1, 8);
        }
        for (int i = 0; i < 15; i++) {
            x.port(0, i, 8);
            x.run(false);
            Check.due("10: number " + i + " as it was told", x.out(0, 0), i + 1);
            x.drop();
        }
    }

    private static void feeds() {
        GateMaker x = new GateMaker();
        long[] numbers = {Long.MIN_VALUE, Long.MAX_VALUE, 0, -1, 1L << 32, 1L << 31};
        long[] due = {0, -1, 0, -1, 0, -(1L << 31)};
        for (int i = 0; i < numbers.length; i++) {
            Check.due("10: any number, " + numbers[i], x.feed(2, numbers[i]), i + 1);
            x.port(3, x.port(2, -1, 32), 32);
        }
        x.run(false);
        for (int i = 0; i < numbers.length; i++) {
            Check.due("10: cut to 32 bits: " + numbers[i], x.out(3, i), due[i]);
        }
    }

    private static void places() {
        for (int place : NO_PLACES) {
            Edge.refusedAlways("11: place " + place, x -> x.place(place, 1), -1);
        }
        for (int place = 0; place < 16; place++) {
            GateMaker x = new GateMaker();
            Check.due("11: place " + place, x.place(place, Long.MAX_VALUE), 0);
            x.keep(0, 4, 0);
            for (int i = 0; i < 16; i++) {
                Check.due("11: at that place alone", x.element(0, i), i == place ? Long.MAX_VALUE : 0);
            }
            Check.due("11: told again", x.place(place, Long.MIN_VALUE), 0);
            x.keep(0, 4, 0);
            Check.due("11: the later one holds", x.element(0, place), Long.MIN_VALUE);
        }
    }

    private static void runRefusals() {
        Edge.refused("21: there are no ACTS, PLAIN", Made.NEW, x -> x.run(false), -2);
        Edge.refused("21: there are no ACTS, LAID, -2 is before -3", Made.NEW, x -> x.run(true), -2);
        Edge.refused("21: nothing is laid", Made.UNLAID, x -> x.run(true), -3);
        Edge.refused("21: nothing is laid, the PLAIN run stays", Made.RAN_PLAIN, x -> x.run(true), -3);
        Check.due("21: a PLAIN run asks for no laying", Made.UNLAID.make().run(false), 0);
        Check.due("21: a LAID run", Made.LAID.make().run(true), 0);
        Check.due("21: one ACT alone", oneConstant().run(false), 0);
    }

    private static GateMaker oneConstant() {
        GateMaker x = new GateMaker();
        x.constant(1, 8);
        x.lay();
        return x;
    }

    private static void runsLeaveWhatWasTold() {
        Edge.asked("21: the same run once more changes nothing", Made.RAN_LAID, x -> x.run(true), 0);
        Edge.asked("21: nor if it FAILS", Made.FAILED, x -> x.run(true), 2);
        Edge.asked("21: nor if it is PLAIN", Made.RAN_PLAIN, x -> x.run(false), 0);
        GateMaker x = Made.RAN_LAID.make();
        x.run(false);
        Check.due("21: what was laid stays", x.tick(5, 0), 7);
        Check.due("21: what was told for PORTS stays", x.count(2), 3);
        x.keep(0, 4, 0);
        Check.due("21: the ROW as told stays", x.element(0, 3), 0);
        Check.due("25: behind the run it is another", x.row(3), 10);
    }

    /** The NUMBER of an ACT of OP 2 .. 6 on two numbers, run PLAIN and LAID. */
    private static void reckoned(String what, int op, long a, long b, int width, long due) {
        GateMaker x = new GateMaker();
        x.constant(a, 32);
        x.constant(b, 32);
        x.port(0, x.reckon(op, 0, 1, width), 32);
        putsOut(what, x, due);
    }

    private static void putsOut(String what, GateMaker x, long due) {
        x.lay();
        for (int turn = 0; turn < 2; turn++) {
            String run = turn == 0 ? ", PLAIN" : ", LAID";
            Check.due("21: " + what + run, x.run(turn == 1), 0);
            Check.due("21: " + what + run + ", put out", x.out(0, 0), due);
        }
    }

    private static void wrapsAround() {
        long most = (1L << 31) - 1;
        long least = -(1L << 31);
        reckoned("ADD to the greatest", 2, most - 1, 1, 32, most);
        reckoned("ADD beyond the greatest", 2, most, 1, 32, least);
        reckoned("ADD two greatest", 2, most, most, 32, -2);
        reckoned("ADD two least", 2, least, least, 32, 0);
        reckoned("LESS to the least", 3, least + 1, 1, 32, least);
        reckoned("LESS below the least", 3, least, 1, 32, most);
        reckoned("LESS the least from 0", 3, 0, least, 32, least);
        reckoned("TIMES two greatest", 4, most, most, 32, 1);
        reckoned("TIMES two least", 4, least, least, 32, 0);
        reckoned("TIMES the least and -1", 4, least, -1, 32, least);
        reckoned("TIMES the greatest and 2", 4, most, 2, 32, -2);
        reckoned("OVER the least by -1", 5, least, -1, 32, least);
        reckoned("OVER the least by 1", 5, least, 1, 32, least);
        reckoned("OVER the greatest by -1", 5, most, -1, 32, -most);
        reckoned("OVER the least by itself", 5, least, least, 32, 1);
        reckoned("BELOW in one bit is -1", 6, 0, 1, 1, -1);
        reckoned("BELOW in two bits is 1", 6, 0, 1, 2, 1);
    }

    private static void wrapsAtEachWidth() {
        for (int width = 1; width < 32; width++) {
            long half = 1L << (width - 1);
            String bits = " in " + width + " bits";
            reckoned("ADD to the greatest" + bits, 2, half, -1, width, half - 1);
            reckoned("ADD beyond the greatest" + bits, 2, half - 1, 1, width, -half);
            reckoned("LESS to the least" + bits, 3, 0, half, width, -half);
            reckoned("LESS below the least" + bits, 3, -half, 1, width, half - 1);
            GateMaker out = new GateMaker();
            out.constant(half, 32);
            out.port(0, 0, width);
            putsOut("OUT beyond the greatest" + bits, out, -half);
            GateMaker pick = new GateMaker();
            pick.constant(-half - 1, 32);
            pick.port(0, pick.pick(0, 0, 0, width), 32);
            putsOut("PICK below the least" + bits, pick, half - 1);
            GateMaker in = new GateMaker();
            in.feed(3, half);
            in.port(0, in.port(3, -1, width), 32);
            putsOut("IN beyond the greatest" + bits, in, -half);
            GateMaker fetch = new GateMaker();
            fetch.place(0, -half - 1);
            fetch.port(0, fetch.touch(fetch.constant(0, 1), -1, width), 32);
            putsOut("FETCH below the least" + bits, fetch, half - 1);
            GateMaker store = new GateMaker();
            store.constant(half, 32);
            store.port(0, store.touch(store.constant(0, 1), 0, width), 32);
            putsOut("STORE beyond the greatest" + bits, store, -half);
            Check.due("25: the ROW gets what is cut" + bits, store.row(0), -half);
        }
    }

    private static void keepsAllBitsOfTheRow() {
        GateMaker x = new GateMaker();
        x.place(0, Long.MIN_VALUE);
        x.place(1, Long.MAX_VALUE);
        x.constant(0, 8);
        x.touch(0, -1, 8);
        x.run(false);
        Check.due("25: a FETCH cuts its NUMBER, not the ROW's", x.row(0), Long.MIN_VALUE);
        Check.due("25: nor what was not touched", x.row(1), Long.MAX_VALUE);
        x.touch(0, 0, 8);
        x.run(false);
        Check.due("25: a STORE puts another there", x.row(0), 0);
        Check.due("25: there alone", x.row(1), Long.MAX_VALUE);
    }

    private static void dividesTowardsZero() {
        reckoned("OVER, 7 by 2", 5, 7, 2, 8, 3);
        reckoned("OVER, -7 by 2", 5, -7, 2, 8, -3);
        reckoned("OVER, 7 by -2", 5, 7, -2, 8, -3);
        reckoned("OVER, -7 by -2", 5, -7, -2, 8, 3);
        reckoned("OVER, 1 by 2", 5, 1, 2, 8, 0);
        reckoned("OVER, -1 by 2", 5, -1, 2, 8, 0);
        reckoned("OVER, 0 by -1", 5, 0, -1, 8, 0);
    }

    private static void comparesByOne() {
        reckoned("BELOW by one", 6, 4, 5, 8, 1);
        reckoned("not BELOW itself", 6, 5, 5, 8, 0);
        reckoned("above by one", 6, 6, 5, 8, 0);
        reckoned("BELOW with a sign", 6, -1, 0, 8, 1);
        reckoned("above with a sign", 6, 0, -1, 8, 0);
        reckoned("the least BELOW the greatest", 6, -(1L << 31), (1L << 31) - 1, 8, 1);
    }

    private static void picksByZero() {
        long[] numbers = {-1, 0, 1, -(1L << 31), 256};
        long[] due = {5, 6, 5, 5, 5};
        for (int i = 0; i < numbers.length; i++) {
            GateMaker x = new GateMaker();
            x.constant(numbers[i], 32);
            x.constant(5, 8);
            x.constant(6, 8);
            x.port(0, x.pick(0, 1, 2, 8), 8);
            putsOut("PICK by " + numbers[i], x, due[i]);
        }
    }

    private static void fails(String what, GateMaker x, int failure, int act) {
        x.lay();
        for (int turn = 0; turn < 2; turn++) {
            String name = "21: " + what + (turn == 0 ? ", PLAIN" : ", LAID");
            Check.due(name, x.run(turn == 1), failure);
            Check.due(name + ", told 0", x.told(0), failure);
            Check.due(name + ", told 1", x.told(1), act);
        }
    }

    private static void failsByZero() {
        for (long number : new long[] {-1, 0, 1}) {
            GateMaker x = new GateMaker();
            x.constant(0, 8);
            x.constant(number, 8);
            x.reckon(5, 0, 1, 8);
            fails("OVER, 0 by " + number, x, number == 0 ? 1 : 0, number == 0 ? 2 : -2);
        }
        GateMaker x = new GateMaker();
        x.constant(256, 16);
        x.port(0, 0, 8);
        x.reckon(5, 0, 1, 8);
        fails("OVER by a number that is cut to 0", x, 1, 2);
    }

    private static void failsBeyondTheRow() {
        for (long place : new long[] {-(1L << 31), -16, -1, 0, 15, 16, 31, (1L << 31) - 1}) {
            boolean good = place >= 0 && place <= 15;
            GateMaker x = new GateMaker();
            x.place(0, 70);
            x.place(15, 71);
            x.constant(place, 32);
            x.touch(0, -1, 8);
            fails("FETCH at place " + place, x, good ? 0 : 2, good ? -2 : 1);
            GateMaker y = new GateMaker();
            y.place(0, 70);
            y.place(15, 71);
            y.constant(place, 32);
            y.constant(9, 8);
            y.touch(0, 1, 8);
            fails("STORE at place " + place, y, good ? 0 : 2, good ? -2 : 2);
            for (int i = 0; i < 16; i++) {
                int told = i == 0 ? 70 : i == 15 ? 71 : 0;
                Check.due("25: place " + i + " behind it", y.row(i), i == place ? 9 : told);
            }
        }
    }

    private static void failsWithNothingLeft() {
        for (int port = 0; port < 4; port++) {
            GateMaker x = new GateMaker();
            x.port(port, -1, 8);
            x.port(port, -1, 8);
            fails("nothing was told for PORT " + port, x, 3, 0);
            x.feed((port + 1) % 4, 1);
            fails("nothing was told but for another PORT", x, 3, 0);
            x.feed(port, 1);
            fails("one too few for two", x, 3, 1);
            x.feed(port, 1);
            fails("just enough", x, 0, -2);
            x.feed(port, 1);
            fails("one is left", x, 0, -2);
        }
        GateMaker x = new GateMaker();
        for (int i = 0; i < 16; i++) {
            x.port(1, -1, 8);
            x.feed(1, i);
        }
        fails("16 INS, 16 numbers", x, 0, -2);
    }

    /** An ACT that FAILS puts nothing out, and takes nothing: a number told later comes first. */
    private static void failsOfOneAct() {
        GateMaker x = new GateMaker();
        x.port(0, -1, 8);
        x.port(1, 0, 8);
        x.lay();
        Check.due("21: it FAILS", x.run(true), 3);
        Check.due("24: so nothing is put out", x.outs(1), 0);
        x.feed(0, 77);
        Check.due("10: the run that was stays", x.told(0), 3);
        Check.due("21: then it doesn't", x.run(true), 0);
        Check.due("23: the number told later", x.out(1, 0), 77);
    }

    private static void endsAtTheFirstFailure() {
        GateMaker x = new GateMaker();
        int nought = x.constant(0, 8);
        x.port(0, nought, 8);
        x.reckon(5, nought, nought, 8);
        x.touch(x.constant(16, 8), nought, 8);
        x.port(0, nought, 8);
        Check.due("21: the first that FAILS", x.run(false), 1);
        Check.due("22: its ACT", x.told(1), 2);
        Check.due("22: three were begun, it too", x.told(2), 3);
        Check.due("22: PLAIN, TICK 0", x.told(3), 0);
        Check.due("22: put out before", x.told(4), 1);
        x.lay();
        Check.due("21: LAID, the same", x.run(true), 1);
        Check.due("22: LAID, the same ACT", x.told(1), 2);
        Check.due("22: LAID, none of a greater number at its TICK", x.told(2), 3);
        Check.due("22: LAID, its TICK", x.told(3), 0);
        Check.due("22: LAID, put out before", x.told(4), 1);
    }

    /** A FETCH and an OVER FAIL; the OVER has the greater number, but is the earlier one. */
    private static void theLeastFailureCounts() {
        GateMaker x = new GateMaker();
        int far = x.constant(16, 8);
        int slow = x.reckon(4, far, far, 16);
        int first = x.touch(slow, -1, 8);
        int second = x.reckon(5, far, x.constant(0, 8), 8);
        int third = x.pick(far, far, far, 8);
        x.lay();
        Check.due("15: the OVER is at TICK 0", x.tick(second, 0), 0);
        Check.due("15: the FETCH is at TICK 2", x.tick(first, 0), 2);
        Check.due("21: the FAILURE of the least number", x.run(true), 2);
        Check.due("22: its ACT", x.told(1), first);
        Check.due("22: its TICK", x.told(3), 2);
        Check.due("22: all were begun but the PICK behind the OVER", x.told(2), 5);
        Check.due("15: though that would be at TICK 0", x.tick(third, 0), 0);
        Check.due("21: PLAIN, the same", x.run(false), 2);
        Check.due("22: PLAIN, the same ACT", x.told(1), first);
        Check.due("22: PLAIN, three were begun", x.told(2), 3);
    }

    private static void theLatestRunCounts() {
        GateMaker x = Made.FAILED.make();
        Check.due("22: the run that FAILED", x.told(0), 2);
        Check.due("22: its ACT", x.told(1), 6);
        Check.due("22: its TICK", x.told(3), x.tick(6, 0));
        x.drop();
        x.run(false);
        Check.due("22: without a FAILURE", x.told(0), 0);
        Check.due("22: without its ACT", x.told(1), -2);
        x.lay();
        Check.due("22: told of the PLAIN run, 0", x.told(3), 0);
        x.run(true);
        Check.due("22: ALL TICKS of the LAID run", x.told(3), 8);
        x.run(false);
        Check.due("22: PLAIN once more, 0", x.told(3), 0);
        Check.due("24: what was put out before doesn't stay", x.outs(1), 1);
    }

    private static void toldRefusals() {
        for (int what : new int[] {LOW, -1, 5, HIGH}) {
            Edge.refusedAlways("22: what " + what, x -> x.told(what), -1);
        }
        for (Made made : NO_RUN) {
            for (int what = 0; what <= 4; what++) {
                int asked = what;
                Edge.refused("22: there was no run, what " + what, made, x -> x.told(asked), -3);
            }
        }
        GateMaker x = new GateMaker();
        Check.due("21: refused", x.run(true), -2);
        Check.due("22: a refused run is none", x.told(0), -3);
    }

    private static void told() {
        int[] plain = {0, -2, 6, 0, 1};
        int[] laid = {0, -2, 6, 8, 1};
        int[] full = {0, -2, 16, 0, 3};
        for (int what = 0; what <= 4; what++) {
            int asked = what;
            Edge.asked("22: PLAIN, what " + what, Made.RAN_PLAIN, x -> x.told(asked), plain[what]);
            Edge.asked("22: LAID, what " + what, Made.RAN_LAID, x -> x.told(asked), laid[what]);
            GateMaker x = Made.FULL.make();
            x.run(false);
            Check.due("22: all 16 ACTS, what " + what, x.told(what), full[what]);
        }
        GateMaker x = oneConstant();
        x.run(true);
        Check.due("22: one CONST was begun", x.told(2), 1);
        Check.due("22: no TICKS", x.told(3), 0);
        Check.due("22: nothing was put out", x.told(4), 0);
    }

    private static void outRefusals() {
        for (int port : NO_PORTS) {
            Edge.wrongArgumentAlways("23: no such PORT " + port, x -> x.out(port, 0));
            Edge.refusedAlways("24: no such PORT " + port, x -> x.outs(port), -1);
        }
        for (int i : new int[] {LOW, -2, -1}) {
            Edge.wrongArgumentAlways("23: i is below 0: " + i, x -> x.out(1, i));
        }
        for (Made made : NO_RUN) {
            Edge.wrongState("23: there was no run", made, x -> x.out(1, 0));
            Edge.wrongState("23: before that there is none such", made, x -> x.out(1, HIGH));
            Edge.refused("24: there was no run", made, x -> x.outs(1), -3);
        }
        Made[] ran = {Made.RAN_PLAIN, Made.RAN_LAID};
        for (Made made : ran) {
            Edge.asked("23: the only one", made, x -> x.out(1, 0), 10);
            Edge.wrongArgument("23: one beyond it", made, x -> x.out(1, 1));
            Edge.wrongArgument("23: far beyond it", made, x -> x.out(1, HIGH));
            Edge.wrongArgument("23: that PORT put nothing out", made, x -> x.out(0, 0));
            Edge.asked("24: one", made, x -> x.outs(1), 1);
            Edge.asked("24: none, of the first PORT", made, x -> x.outs(0), 0);
            Edge.asked("24: none, of the last PORT", made, x -> x.outs(3), 0);
        }
    }

    private static void outs() {
        for (int port = 0; port < 4; port++) {
            int that = port;
            GateMaker x = new GateMaker();
            x.constant(9, 8);
            for (int i = 1; i < 16; i++) {
                x.port(port, 0, 1 + i % 8);
            }
            x.lay();
            for (int turn = 0; turn < 2; turn++) {
                x.run(turn == 1);
                Check.due("24: the most that one PORT can put out", x.outs(port), 15);
                Check.due("24: of another none", x.outs((port + 1) % 4), 0);
                Check.due("22: in all", x.told(4), 15);
                Check.due("23: the first", x.out(port, 0), 1);
                Check.due("23: the last", x.out(port, 14), 9);
                Check.wrongArgument("23: one beyond the last", () -> x.out(that, 15));
            }
        }
    }

    private static void rows() {
        for (int place : NO_PLACES) {
            Edge.wrongArgumentAlways("25: no such place " + place, x -> x.row(place));
        }
        for (Made made : NO_RUN) {
            Edge.wrongState("25: there was no run", made, x -> x.row(0));
            Edge.wrongState("25: there was no run, the last place", made, x -> x.row(15));
        }
        Edge.asked("25: the first place", Made.RAN_LAID, x -> x.row(0), 0);
        Edge.asked("25: the last place", Made.RAN_LAID, x -> x.row(15), -7);
        Edge.asked("25: what was stored", Made.RAN_LAID, x -> x.row(3), 10);
        GateMaker x = Made.RAN_LAID.make();
        x.place(15, 4);
        Check.due("25: behind the run, not as told since", x.row(15), -7);
    }

    /** An object is good for 512 calls; the dearest ones first. */
    private static void the512thCall() {
        GateMaker x = new GateMaker();
        for (int i = 0; i < 400; i++) {
            Check.due("28: call " + i, x.make(i % 8, 3 + i % 2, 60), 0);
        }
        for (int i = 0; i < 16; i++) {
            Check.due("6: call " + (400 + i), i == 0 ? x.constant(1, 8) : x.touch(0, 0, 8), i);
        }
        for (int i = 416; i < 511; i++) {
            Check.due("15: call " + i, i % 2 == 0 ? x.lay() : x.run(true), i % 2 == 0 ? 15 : 0);
        }
        Check.due("25: the 512th call", x.row(1), 1);
    }
}
