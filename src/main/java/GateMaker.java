import java.util.NoSuchElementException;

/**
 * A maker of gates from thoughts: a block of acts on numbers of told widths is laid into ticks by
 * what must wait and by few parts, numbers that live over a tick get registers, parts that are
 * shared get choosers, spans tell how many bits are needed, and the machine that comes is run
 * beside the block, its failures too.
 */
public final class GateMaker {
    private static final int WRONG = -1;
    private static final int NONE = -2;
    private static final int NOT_YET = -3;
    private static final int NOTHING_HELD = -11;
    private static final int OTHER_KIND = -12;
    private static final int NO_SUCH_PLACE = -13;
    private static final int SIZE_BELOW_ZERO = -14;
    private static final int NO_FAILURE = -15;

    private static final int CONST = 0;
    private static final int IN = 1;
    private static final int ADD = 2;
    private static final int LESS = 3;
    private static final int TIMES = 4;
    private static final int OVER = 5;
    private static final int BELOW = 6;
    private static final int PICK = 7;
    private static final int FETCH = 8;
    private static final int STORE = 9;
    private static final int OUT = 10;

    private static final int ADDERS = 0;
    private static final int MULTIPLIERS = 1;
    private static final int DIVIDERS = 2;
    private static final int DOORS = 3;

    private static final int BY_ZERO = 1;
    private static final int OUT_OF_ROW = 2;
    private static final int NOTHING_LEFT = 3;

    private static final int MOST_ACTS = 16;
    private static final int WIDEST = 32;
    private static final int PORTS = 4;
    private static final int KINDS = 4;
    private static final int MOST_PARTS = 4;
    private static final int LONGEST = 8;
    private static final int MOST_FED = 20;
    private static final int PLACES = 16;
    private static final int SHELVES = 8;
    private static final int LARGEST_ROW = 60;

    private static final int HOLD_NOTHING = 0;
    private static final int HOLD_ACT = 1;
    private static final int HOLD_INTS = 3;
    private static final int HOLD_LONGS = 4;

    private final Block block;
    private final Stock stock;
    private final Needs needs;
    private final Plan plan;
    private final Registers registers;
    private final Machine machine;
    private final Held[] shelves;
    private boolean laid;
    private boolean ran;

    public GateMaker() {
        block = new Block();
        stock = new Stock();
        needs = new Needs(block, stock);
        plan = new Plan(block, stock, needs);
        registers = new Registers(block, stock, plan);
        machine = new Machine(block);
        shelves = new Held[SHELVES];
        laid = false;
        ran = false;
    }

    public int constant(long v, int width) {
        if (!isWidth(width)) {
            return WRONG;
        }
        long number = cut(v, width);
        return append(new Act(CONST, width, NONE, NONE, NONE, NONE, new Span(number, number)));
    }

    public int port(int port, int x, int width) {
        boolean in = x == -1;
        if (!isPort(port) || !(in || block.has(x)) || !isWidth(width)) {
            return WRONG;
        }
        if (in) {
            return append(new Act(IN, width, port, NONE, NONE, NONE, Span.wide(width)));
        }
        Span span = block.get(x).span.fitted(width);
        return append(new Act(OUT, width, port, x, NONE, NONE, span));
    }

    public int reckon(int op, int x, int y, int width) {
        if (!within(op, ADD, BELOW) || !block.has(x) || !block.has(y) || !isWidth(width)) {
            return WRONG;
        }
        Span span = block.get(x).span.reckoned(op, block.get(y).span).fitted(width);
        return append(new Act(op, width, NONE, x, y, NONE, span));
    }

    public int pick(int x, int y, int z, int width) {
        if (!block.has(x) || !block.has(y) || !block.has(z) || !isWidth(width)) {
            return WRONG;
        }
        Span span = block.get(x).span.picked(block.get(y).span, block.get(z).span).fitted(width);
        return append(new Act(PICK, width, NONE, x, y, z, span));
    }

    public int touch(int x, int y, int width) {
        boolean fetch = y == -1;
        if (!block.has(x) || !(fetch || block.has(y)) || !isWidth(width)) {
            return WRONG;
        }
        if (fetch) {
            return append(new Act(FETCH, width, NONE, x, NONE, NONE, Span.wide(width)));
        }
        Span span = block.get(y).span.fitted(width);
        return append(new Act(STORE, width, NONE, x, y, NONE, span));
    }

    public int drop() {
        if (block.size() == 0) {
            return NONE;
        }
        forget();
        block.removeLast();
        return block.size();
    }

    public int parts(int kind, int n) {
        if (!isKind(kind) || !within(n, 1, MOST_PARTS)) {
            return WRONG;
        }
        forget();
        int before = stock.numbers[kind];
        stock.numbers[kind] = n;
        return before;
    }

    public int length(int kind, int n, boolean piped) {
        if (!isKind(kind) || !within(n, 1, LONGEST)) {
            return WRONG;
        }
        forget();
        int before = stock.lengths[kind];
        stock.lengths[kind] = n;
        stock.piped[kind] = piped;
        return before;
    }

    public int feed(int port, long v) {
        if (!isPort(port)) {
            return WRONG;
        }
        Tape fed = machine.fed[port];
        if (fed.isFull()) {
            return NONE;
        }
        fed.append(v);
        return fed.size();
    }

    public int place(int place, long v) {
        if (!isPlace(place)) {
            return WRONG;
        }
        machine.toldRow[place] = v;
        return 0;
    }

    public int act(int act, int what) {
        if (!block.has(act)) {
            return WRONG;
        }
        Act asked = block.get(act);
        switch (what) {
            case 0: return asked.op;
            case 1: return asked.width;
            case 2: return asked.x;
            case 3: return asked.y;
            case 4: return asked.z;
            case 5: return asked.port;
            case 6: return stock.lengthOf(asked);
            case 7: return asked.span.bits();
            case 8: return asked.kind();
            default: return WRONG;
        }
    }

    public long span(int act, boolean greatest) throws IllegalArgumentException {
        if (!block.has(act)) {
            throw new IllegalArgumentException("no such ACT");
        }
        Span span = block.get(act).span;
        return greatest ? span.greatest : span.least;
    }

    public int needs(int a, int b) {
        if (!block.has(a) || !block.has(b) || a >= b) {
            return WRONG;
        }
        return needs.between(a, b);
    }

    public int lay() {
        if (block.size() == 0) {
            return NONE;
        }
        // What was laid goes with every change, so what stands is what would be laid again.
        if (!laid) {
            plan.layActs();
            registers.assign();
            laid = true;
        }
        return plan.allTicks;
    }

    public int tick(int act, int what) {
        if (!block.has(act) || !within(what, 0, 6)) {
            return WRONG;
        }
        if (!laid) {
            return NOT_YET;
        }
        switch (what) {
            case 0: return plan.ticks[act];
            case 1: return plan.partOf[act];
            case 2: return needs.tightest(act, plan.ticks);
            case 3: return plan.ticks[act] > needs.readyTick(act, plan.ticks) ? 1 : 0;
            case 4: return registers.registerOf[act];
            case 5: return registers.firstTick[act];
            default: return registers.lastTick[act];
        }
    }

    public int bound(int what) {
        if (!within(what, 0, KINDS + 1)) {
            return WRONG;
        }
        if (what == 0) {
            return needs.ticksWithAllParts();
        }
        if (what <= KINDS) {
            return stock.leastTicks(what - 1, block);
        }
        int greatest = needs.ticksWithAllParts();
        for (int kind = 0; kind < KINDS; kind++) {
            greatest = Math.max(greatest, stock.leastTicks(kind, block));
        }
        return greatest;
    }

    public int registers() {
        return laid ? registers.total : NOT_YET;
    }

    public int chooser(int kind, int i, boolean second) {
        if (!isKind(kind) || i < 0 || i >= stock.numbers[kind]) {
            return WRONG;
        }
        if (!laid) {
            return NOT_YET;
        }
        return registers.sourcesOf(kind, i, second);
    }

    public int at(int tick, int i) {
        if (tick < 0 || i < 0) {
            return WRONG;
        }
        if (!laid) {
            return NOT_YET;
        }
        return plan.beginner(tick, i);
    }

    public int run(boolean laid) {
        if (block.size() == 0) {
            return NONE;
        }
        if (laid && !this.laid) {
            return NOT_YET;
        }
        if (laid) {
            machine.runLaid(plan);
        } else {
            machine.runPlain();
        }
        ran = true;
        return machine.failure;
    }

    public int told(int what) {
        if (!within(what, 0, 4)) {
            return WRONG;
        }
        if (!ran) {
            return NOT_YET;
        }
        switch (what) {
            case 0: return machine.failure;
            case 1: return machine.failedAct;
            case 2: return machine.begun;
            case 3: return machine.endTick;
            default: return total(machine.put);
        }
    }

    public long out(int port, int i) throws IllegalArgumentException, IllegalStateException {
        if (!isPort(port) || i < 0) {
            throw new IllegalArgumentException("no such PORT, or a number below 0");
        }
        if (!ran) {
            throw new IllegalStateException("there was no run");
        }
        Tape put = machine.put[port];
        if (i >= put.size()) {
            throw new IllegalArgumentException("the PORT did not put out so many");
        }
        return put.get(i);
    }

    public int outs(int port) {
        if (!isPort(port)) {
            return WRONG;
        }
        return ran ? machine.put[port].size() : NOT_YET;
    }

    public long row(int place) throws IllegalArgumentException, IllegalStateException {
        if (!isPlace(place)) {
            throw new IllegalArgumentException("no such place");
        }
        if (!ran) {
            throw new IllegalStateException("there was no run");
        }
        return machine.row[place];
    }

    public int count(int what) {
        switch (what) {
            case 0: return block.size();
            case 1: return block.operands();
            case 2: return total(machine.fed);
            default: return isKind(what - 3) ? stock.numbers[what - 3] : WRONG;
        }
    }

    public int keep(int d, int what, int k) {
        if (!isShelf(d)) {
            return WRONG;
        }
        switch (what) {
            case HOLD_NOTHING:
                shelves[d] = null;
                return 0;
            case HOLD_ACT:
                return keepAct(d, k);
            case HOLD_INTS:
                return keepTicks(d);
            case HOLD_LONGS:
                shelves[d] = new Row(HOLD_LONGS, machine.toldRow.clone());
                return 0;
            default:
                return WRONG;
        }
    }

    public int make(int d, int what, int n) {
        if (!isShelf(d) || !within(what, HOLD_INTS, HOLD_LONGS) || n > LARGEST_ROW) {
            return WRONG;
        }
        if (n < 0) {
            return SIZE_BELOW_ZERO;
        }
        shelves[d] = new Row(what, new long[n]);
        return 0;
    }

    public long element(int d, int i) throws IllegalArgumentException, IllegalStateException {
        if (!isShelf(d)) {
            throw new IllegalArgumentException("no such SHELF");
        }
        if (shelves[d] instanceof Row row && row.reaches(i, 1)) {
            return row.cells[i];
        }
        throw new IllegalStateException("nothing is held, it is no ROW, or has no such place");
    }

    public int copy(int d, int i, int e, int j, int n) {
        if (!isShelf(d) || !isShelf(e)) {
            return WRONG;
        }
        if (shelves[d] == null || shelves[e] == null) {
            return NOTHING_HELD;
        }
        if (shelves[d] instanceof Row from && shelves[e] instanceof Row to
                && from.what == to.what) {
            return copyCells(from, i, to, j, n);
        }
        return OTHER_KIND;
    }

    public int weight(int d) {
        if (!isShelf(d)) {
            return WRONG;
        }
        if (shelves[d] instanceof Act act) {
            return act.heft();
        }
        return shelves[d] == null ? NOTHING_HELD : OTHER_KIND;
    }

    public int toss(int d) {
        if (!isShelf(d)) {
            return WRONG;
        }
        if (shelves[d] instanceof Act act) {
            return caughtFailure(act);
        }
        return shelves[d] == null ? NOTHING_HELD : OTHER_KIND;
    }

    private int append(Act act) {
        if (block.isFull()) {
            return NONE;
        }
        forget();
        block.add(act);
        return block.size() - 1;
    }

    private void forget() {
        laid = false;
        ran = false;
    }

    private int keepAct(int d, int k) {
        if (!block.has(k)) {
            return WRONG;
        }
        shelves[d] = block.get(k);
        return 0;
    }

    private int keepTicks(int d) {
        if (!laid) {
            return NOT_YET;
        }
        long[] cells = new long[block.size()];
        for (int a = 0; a < cells.length; a++) {
            cells[a] = plan.ticks[a];
        }
        shelves[d] = new Row(HOLD_INTS, cells);
        return 0;
    }

    private static int copyCells(Row from, int i, Row to, int j, int n) {
        if (!from.reaches(i, n) || !to.reaches(j, n)) {
            return NO_SUCH_PLACE;
        }
        System.arraycopy(from.cells, i, to.cells, j, n);
        return n;
    }

    private static int caughtFailure(Act act) {
        try {
            act.fail();
            return NO_FAILURE;
        } catch (IllegalArgumentException byZero) {
            return BY_ZERO;
        } catch (IllegalStateException outOfRow) {
            return OUT_OF_ROW;
        } catch (NoSuchElementException nothingLeft) {
            return NOTHING_LEFT;
        }
    }

    private static int total(Tape[] tapes) {
        int sum = 0;
        for (Tape tape : tapes) {
            sum += tape.size();
        }
        return sum;
    }

    private static long cut(long v, int width) {
        int unused = 64 - width;
        return v << unused >> unused;
    }

    private static boolean within(int n, int least, int greatest) {
        return n >= least && n <= greatest;
    }

    private static boolean isWidth(int width) {
        return within(width, 1, WIDEST);
    }

    private static boolean isPort(int port) {
        return within(port, 0, PORTS - 1);
    }

    private static boolean isKind(int kind) {
        return within(kind, 0, KINDS - 1);
    }

    private static boolean isPlace(long place) {
        return place >= 0 && place < PLACES;
    }

    private static boolean isShelf(int d) {
        return within(d, 0, SHELVES - 1);
    }

    /** What a SHELF can hold; a SHELF that holds nothing has null. */
    private abstract static class Held {
    }

    private static final class Row extends Held {
        final int what;
        // Rows of ints only ever get ints, so longs serve for both and 'what' keeps them apart.
        final long[] cells;

        Row(int what, long[] cells) {
            this.what = what;
            this.cells = cells;
        }

        boolean reaches(int from, int n) {
            return from >= 0 && n >= 0 && (long) from + n <= cells.length;
        }
    }

    private static final class Span {
        final long least;
        final long greatest;

        Span(long least, long greatest) {
            this.least = least;
            this.greatest = greatest;
        }

        static Span wide(int width) {
            long half = 1L << (width - 1);
            return new Span(-half, half - 1);
        }

        boolean fits(int width) {
            long half = 1L << (width - 1);
            return least >= -half && greatest < half;
        }

        Span fitted(int width) {
            return fits(width) ? this : wide(width);
        }

        int bits() {
            int n = 1;
            while (n < WIDEST && !fits(n)) {
                n++;
            }
            return n;
        }

        boolean meets(Span other) {
            return least <= other.greatest && other.least <= greatest;
        }

        Span reckoned(int op, Span y) {
            switch (op) {
                case ADD: return new Span(least + y.least, greatest + y.greatest);
                case LESS: return new Span(least - y.greatest, greatest - y.least);
                case TIMES: return product(y);
                case OVER: return quotient();
                default: return comparison(y);
            }
        }

        Span picked(Span y, Span z) {
            if (least == 0 && greatest == 0) {
                return z;
            }
            if (least > 0 || greatest < 0) {
                return y;
            }
            return new Span(Math.min(y.least, z.least), Math.max(y.greatest, z.greatest));
        }

        private Span product(Span y) {
            long a = least * y.least;
            long b = least * y.greatest;
            long c = greatest * y.least;
            long d = greatest * y.greatest;
            return new Span(Math.min(Math.min(a, b), Math.min(c, d)),
                    Math.max(Math.max(a, b), Math.max(c, d)));
        }

        private Span quotient() {
            long size = Math.max(Math.abs(least), Math.abs(greatest));
            return new Span(-size, size);
        }

        private Span comparison(Span y) {
            boolean always = greatest < y.least;
            boolean sometimes = least < y.greatest;
            return new Span(always ? 1 : 0, sometimes ? 1 : 0);
        }
    }

    private static final class Act extends Held {
        final int op;
        final int width;
        final int port;
        final int x;
        final int y;
        final int z;
        final Span span;

        Act(int op, int width, int port, int x, int y, int z, Span span) {
            this.op = op;
            this.width = width;
            this.port = port;
            this.x = x;
            this.y = y;
            this.z = z;
            this.span = span;
        }

        int kind() {
            switch (op) {
                case ADD: case LESS: case BELOW: return ADDERS;
                case TIMES: return MULTIPLIERS;
                case OVER: return DIVIDERS;
                case FETCH: case STORE: return DOORS;
                default: return NONE;
            }
        }

        int operands() {
            return (x == NONE ? 0 : 1) + (y == NONE ? 0 : 1) + (z == NONE ? 0 : 1);
        }

        boolean takes(int act) {
            return x == act || y == act || z == act;
        }

        boolean canFail() {
            return failure() != 0;
        }

        boolean changesOutside() {
            return op == IN || op == STORE || op == OUT;
        }

        int failure() {
            switch (op) {
                case OVER: return BY_ZERO;
                case FETCH: case STORE: return OUT_OF_ROW;
                case IN: return NOTHING_LEFT;
                default: return 0;
            }
        }

        void fail() {
            switch (failure()) {
                case BY_ZERO: throw new IllegalArgumentException("divided by 0");
                case OUT_OF_ROW: throw new IllegalStateException("the ROW has no such place");
                case NOTHING_LEFT: throw new NoSuchElementException("nothing is left for the PORT");
                default: break;
            }
        }

        int heft() {
            int plain = width + 10 * operands();
            switch (op) {
                case TIMES: return plain + 100;
                case OVER: return 2 * (plain + 100);
                case FETCH: case STORE: return plain + 7;
                case IN: case OUT: return plain + 7 + 1000;
                default: return plain;
            }
        }
    }

    private static final class Block {
        private final Act[] acts = new Act[MOST_ACTS];
        private int filled = 0;

        int size() {
            return filled;
        }

        boolean isFull() {
            return filled == MOST_ACTS;
        }

        boolean has(int act) {
            return act >= 0 && act < filled;
        }

        Act get(int act) {
            return acts[act];
        }

        void add(Act act) {
            acts[filled] = act;
            filled++;
        }

        void removeLast() {
            filled--;
        }

        int operands() {
            int sum = 0;
            for (int a = 0; a < filled; a++) {
                sum += acts[a].operands();
            }
            return sum;
        }
    }

    /** The PARTS that there are, and their LENGTHS. */
    private static final class Stock {
        final int[] numbers = {1, 1, 1, 1};
        final int[] lengths = {1, 2, 4, 1};
        final boolean[] piped = new boolean[KINDS];

        int lengthOf(Act act) {
            if (act.op == CONST) {
                return 0;
            }
            int kind = act.kind();
            return kind == NONE ? 1 : lengths[kind];
        }

        int filledTicks(int kind) {
            return piped[kind] ? 1 : lengths[kind];
        }

        int leastTicks(int kind, Block block) {
            int ticks = 0;
            for (int a = 0; a < block.size(); a++) {
                if (block.get(a).kind() == kind) {
                    ticks += filledTicks(kind);
                }
            }
            int n = Math.max(1, numbers[kind]);
            return (ticks + n - 1) / n;
        }
    }

    private static final class Needs {
        private final Block block;
        private final Stock stock;
        private final int[] ticksWithParts = new int[MOST_ACTS];

        Needs(Block block, Stock stock) {
            this.block = block;
            this.stock = stock;
        }

        int between(int a, int b) {
            Act before = block.get(a);
            Act behind = block.get(b);
            int k = 0;
            if (behind.takes(a) || before.canFail() && behind.changesOutside()) {
                k = stock.lengthOf(before);
            }
            if (meetInRow(before, behind) || meetAtPort(before, behind)) {
                k = Math.max(k, 1);
            }
            return k;
        }

        private boolean meetInRow(Act before, Act behind) {
            return before.kind() == DOORS && behind.kind() == DOORS
                    && (before.op == STORE || behind.op == STORE)
                    && block.get(before.x).span.meets(block.get(behind.x).span);
        }

        private static boolean meetAtPort(Act before, Act behind) {
            return before.port != NONE && before.port == behind.port && before.op == behind.op;
        }

        int readyTick(int b, int[] ticks) {
            int ready = 0;
            for (int a = 0; a < b; a++) {
                int k = between(a, b);
                if (k > 0) {
                    ready = Math.max(ready, ticks[a] + k);
                }
            }
            return ready;
        }

        int tightest(int b, int[] ticks) {
            for (int a = 0; a < b; a++) {
                int k = between(a, b);
                if (k > 0 && ticks[a] + k == ticks[b]) {
                    return a;
                }
            }
            return NONE;
        }

        int ticksWithAllParts() {
            int all = 0;
            for (int b = 0; b < block.size(); b++) {
                ticksWithParts[b] = readyTick(b, ticksWithParts);
                all = Math.max(all, ticksWithParts[b] + stock.lengthOf(block.get(b)));
            }
            return all;
        }
    }

    private static final class Plan {
        private final Block block;
        private final Stock stock;
        private final Needs needs;
        final int[] ticks = new int[MOST_ACTS];
        final int[] partOf = new int[MOST_ACTS];
        final int[] order = new int[MOST_ACTS];
        int allTicks = 0;

        Plan(Block block, Stock stock, Needs needs) {
            this.block = block;
            this.stock = stock;
            this.needs = needs;
        }

        void layActs() {
            allTicks = 0;
            for (int b = 0; b < block.size(); b++) {
                seat(b, needs.readyTick(b, ticks));
                allTicks = Math.max(allTicks, ticks[b] + stock.lengthOf(block.get(b)));
                putInOrder(b);
            }
        }

        private void seat(int b, int ready) {
            int kind = block.get(b).kind();
            ticks[b] = ready;
            partOf[b] = NONE;
            if (kind == NONE) {
                return;
            }
            // From ALL TICKS of the ACTS before on every PART is free, so the search ends there.
            int latest = Math.max(ready, allTicks);
            for (int t = ready; t <= latest && partOf[b] == NONE; t++) {
                ticks[b] = t;
                partOf[b] = freePart(b, kind, t);
            }
        }

        private int freePart(int b, int kind, int t) {
            for (int part = 0; part < stock.numbers[kind]; part++) {
                if (isFree(b, kind, part, t)) {
                    return part;
                }
            }
            return NONE;
        }

        private boolean isFree(int b, int kind, int part, int t) {
            int filled = stock.filledTicks(kind);
            for (int a = 0; a < b; a++) {
                boolean samePart = partOf[a] == part && block.get(a).kind() == kind;
                if (samePart && ticks[a] < t + filled && t < ticks[a] + filled) {
                    return false;
                }
            }
            return true;
        }

        private void putInOrder(int b) {
            int i = b;
            while (i > 0 && ticks[order[i - 1]] > ticks[b]) {
                order[i] = order[i - 1];
                i--;
            }
            order[i] = b;
        }

        int beginner(int tick, int i) {
            int passed = 0;
            for (int a = 0; a < block.size(); a++) {
                if (ticks[a] == tick) {
                    if (passed == i) {
                        return a;
                    }
                    passed++;
                }
            }
            return NONE;
        }
    }

    private static final class Registers {
        private final Block block;
        private final Stock stock;
        private final Plan plan;
        final int[] firstTick = new int[MOST_ACTS];
        final int[] lastTick = new int[MOST_ACTS];
        final int[] registerOf = new int[MOST_ACTS];
        int total = 0;

        Registers(Block block, Stock stock, Plan plan) {
            this.block = block;
            this.stock = stock;
            this.plan = plan;
        }

        void assign() {
            total = 0;
            for (int a = 0; a < block.size(); a++) {
                findLife(a);
                registerOf[a] = NONE;
            }
            for (int turn = 0; turn < block.size(); turn++) {
                int a = nextWithout();
                if (a != NONE) {
                    registerOf[a] = leastFree(a);
                    total = Math.max(total, registerOf[a] + 1);
                }
            }
        }

        private void findLife(int a) {
            firstTick[a] = NONE;
            lastTick[a] = NONE;
            Act act = block.get(a);
            if (act.op == CONST) {
                return;
            }
            for (int b = a + 1; b < block.size(); b++) {
                if (block.get(b).takes(a)) {
                    firstTick[a] = plan.ticks[a] + stock.lengthOf(act);
                    lastTick[a] = Math.max(lastTick[a], plan.ticks[b]);
                }
            }
        }

        private int nextWithout() {
            int next = NONE;
            for (int a = 0; a < block.size(); a++) {
                boolean waits = firstTick[a] != NONE && registerOf[a] == NONE;
                if (waits && (next == NONE || firstTick[a] < firstTick[next])) {
                    next = a;
                }
            }
            return next;
        }

        private int leastFree(int a) {
            int register = 0;
            while (register < MOST_ACTS && isTaken(register, a)) {
                register++;
            }
            return register;
        }

        private boolean isTaken(int register, int a) {
            for (int other = 0; other < block.size(); other++) {
                if (registerOf[other] == register && firstTick[other] <= lastTick[a]
                        && firstTick[a] <= lastTick[other]) {
                    return true;
                }
            }
            return false;
        }

        int sourcesOf(int kind, int part, boolean second) {
            int seen = 0;
            for (int a = 0; a < block.size(); a++) {
                Act act = block.get(a);
                int operand = second ? act.y : act.x;
                if (act.kind() == kind && plan.partOf[a] == part && operand != NONE) {
                    seen |= 1 << sourceOf(operand);
                }
            }
            return Integer.bitCount(seen);
        }

        // REGISTERS and CONST ACTS are numbered apart, so that one int has a bit for each.
        private int sourceOf(int operand) {
            boolean isConst = block.get(operand).op == CONST;
            return isConst ? MOST_ACTS + operand : registerOf[operand];
        }
    }

    private static final class Tape {
        private final long[] numbers;
        private int filled = 0;

        Tape(int room) {
            numbers = new long[room];
        }

        int size() {
            return filled;
        }

        boolean isFull() {
            return filled == numbers.length;
        }

        long get(int i) {
            return numbers[i];
        }

        void append(long v) {
            if (filled < numbers.length) {
                numbers[filled] = v;
                filled++;
            }
        }

        void clear() {
            filled = 0;
        }
    }

    private static final class Machine {
        private final Block block;
        final Tape[] fed = new Tape[PORTS];
        final Tape[] put = new Tape[PORTS];
        final long[] toldRow = new long[PLACES];
        final long[] row = new long[PLACES];
        private final int[] taken = new int[PORTS];
        private final int[] plainOrder = new int[MOST_ACTS];
        // A REGISTER has its NUMBER for as long as that lives, so the NUMBER by its ACT serves.
        private final long[] numbers = new long[MOST_ACTS];
        int failure = 0;
        int failedAct = NONE;
        int begun = 0;
        int endTick = 0;

        Machine(Block block) {
            this.block = block;
            for (int port = 0; port < PORTS; port++) {
                fed[port] = new Tape(MOST_FED);
                put[port] = new Tape(MOST_ACTS);
            }
            for (int a = 0; a < MOST_ACTS; a++) {
                plainOrder[a] = a;
            }
        }

        void runPlain() {
            runInOrder(plainOrder);
            endTick = 0;
        }

        void runLaid(Plan plan) {
            runInOrder(plan.order);
            endTick = failedAct == NONE ? plan.allTicks : plan.ticks[failedAct];
        }

        // Only ACTS before the failed one still begin, so the last FAILURE has the least number.
        private void runInOrder(int[] order) {
            reset();
            for (int i = 0; i < block.size(); i++) {
                int a = order[i];
                if (failedAct == NONE || a < failedAct) {
                    begin(a);
                }
            }
        }

        private void reset() {
            System.arraycopy(toldRow, 0, row, 0, PLACES);
            for (int port = 0; port < PORTS; port++) {
                taken[port] = 0;
                put[port].clear();
            }
            failure = 0;
            failedAct = NONE;
            begun = 0;
        }

        private void begin(int a) {
            Act act = block.get(a);
            begun++;
            if (failsNow(act)) {
                failure = act.failure();
                failedAct = a;
                return;
            }
            numbers[a] = cut(result(act), act.width);
            passOutside(act, numbers[a]);
        }

        private boolean failsNow(Act act) {
            switch (act.op) {
                case IN: return taken[act.port] >= fed[act.port].size();
                case OVER: return numbers[act.y] == 0;
                case FETCH: case STORE: return !isPlace(numbers[act.x]);
                default: return false;
            }
        }

        private long result(Act act) {
            long x = act.x == NONE ? 0 : numbers[act.x];
            long y = act.y == NONE ? 0 : numbers[act.y];
            switch (act.op) {
                case CONST: return act.span.least;
                case IN: return fed[act.port].get(taken[act.port]);
                case ADD: return x + y;
                case LESS: return x - y;
                case TIMES: return x * y;
                case OVER: return y == 0 ? 0 : x / y;
                case BELOW: return x < y ? 1 : 0;
                case PICK: return x != 0 ? y : numbers[act.z];
                case FETCH: return isPlace(x) ? row[(int) x] : 0;
                case STORE: return y;
                default: return x;
            }
        }

        private void passOutside(Act act, long number) {
            switch (act.op) {
                case IN: taken[act.port]++; break;
                case STORE: store(numbers[act.x], number); break;
                case OUT: put[act.port].append(number); break;
                default: break;
            }
        }

        private void store(long place, long number) {
            if (isPlace(place)) {
                row[(int) place] = number;
            }
        }
    }
}
