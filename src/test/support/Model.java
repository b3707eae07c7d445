import java.math.BigInteger;
import java.util.ArrayList;
import java.util.Arrays;
import java.util.Comparator;
import java.util.HashMap;
import java.util.HashSet;
import java.util.List;
import java.util.Map;
import java.util.Set;
import java.util.TreeMap;

/**
 * The document once more, by other means than the program's: what is laid is kept as sets of filled
 * ticks, spans are reckoned anew for every question, and the laid machine reads true registers, into
 * which numbers come only when their ticks are over.
 */
final class Model {
    private record Act(int op, int width, int port, List<Integer> operands, long told) {
        int operand(int i) {
            return i < operands.size() ? operands.get(i) : -2;
        }
    }

    private record Seat(int tick, int part) {
    }

    private record Failure(int act, int how) {
    }

    private final List<Act> acts = new ArrayList<>();
    private final int[] parts = {1, 1, 1, 1};
    private final int[] lengths = {1, 2, 4, 1};
    private final boolean[] piped = new boolean[4];
    private final Map<Integer, List<Long>> fed = new HashMap<>();
    private final long[] told = new long[16];
    private final Object[] shelves = new Object[8];
    private List<Seat> seats = null;
    private Map<Integer, Integer> registerOf = null;
    private Ran latest = null;

    private final class Ran {
        final long[] row = told.clone();
        final Map<Integer, List<Long>> put = new HashMap<>();
        final Map<Integer, Integer> taken = new HashMap<>();
        final List<Integer> begun = new ArrayList<>();
        Failure failure = null;
        int end = 0;
    }

    private void changed() {
        seats = null;
        registerOf = null;
        latest = null;
    }

    private boolean no(int act) {
        return act < 0 || act >= acts.size();
    }

    private static boolean noWidth(int width) {
        return width < 1 || width > 32;
    }

    private int add(int op, int width, int port, long number, Integer... operands) {
        if (acts.size() == 16) {
            return -2;
        }
        changed();
        acts.add(new Act(op, width, port, Arrays.asList(operands), number));
        return acts.size() - 1;
    }

    int constant(long v, int width) {
        return noWidth(width) ? -1 : add(0, width, -2, v);
    }

    int port(int port, int x, int width) {
        if (port < 0 || port > 3 || noWidth(width) || x != -1 && no(x)) {
            return -1;
        }
        return x == -1 ? add(1, width, port, 0) : add(10, width, port, 0, x);
    }

    int reckon(int op, int x, int y, int width) {
        if (op < 2 || op > 6 || noWidth(width) || no(x) || no(y)) {
            return -1;
        }
        return add(op, width, -2, 0, x, y);
    }

    int pick(int x, int y, int z, int width) {
        return no(x) || no(y) || no(z) || noWidth(width) ? -1 : add(7, width, -2, 0, x, y, z);
    }

    int touch(int x, int y, int width) {
        if (no(x) || y != -1 && no(y) || noWidth(width)) {
            return -1;
        }
        return y == -1 ? add(8, width, -2, 0, x) : add(9, width, -2, 0, x, y);
    }

    int drop() {
        if (acts.isEmpty()) {
            return -2;
        }
        changed();
        acts.remove(acts.size() - 1);
        return acts.size();
    }

    int parts(int kind, int n) {
        if (kind < 0 || kind > 3 || n < 1 || n > 4) {
            return -1;
        }
        changed();
        int was = parts[kind];
        parts[kind] = n;
        return was;
    }

    int length(int kind, int n, boolean flows) {
        if (kind < 0 || kind > 3 || n < 1 || n > 8) {
            return -1;
        }
        changed();
        int was = lengths[kind];
        lengths[kind] = n;
        piped[kind] = flows;
        return was;
    }

    int feed(int port, long v) {
        if (port < 0 || port > 3) {
            return -1;
        }
        List<Long> numbers = fed.computeIfAbsent(port, p -> new ArrayList<>());
        if (numbers.size() == 20) {
            return -2;
        }
        numbers.add(v);
        return numbers.size();
    }

    int place(int place, long v) {
        if (place < 0 || place > 15) {
            return -1;
        }
        told[place] = v;
        return 0;
    }

    private static int kindOf(Act act) {
        return switch (act.op()) {
            case 2, 3, 6 -> 0;
            case 4 -> 1;
            case 5 -> 2;
            case 8, 9 -> 3;
            default -> -2;
        };
    }

    private int lengthOf(Act act) {
        if (act.op() == 0) {
            return 0;
        }
        return kindOf(act) == -2 ? 1 : lengths[kindOf(act)];
    }

    private static BigInteger power(int n) {
        return BigInteger.TWO.pow(n);
    }

    private static boolean inWidth(BigInteger[] span, int width) {
        return span[0].compareTo(power(width - 1).negate()) >= 0
                && span[1].compareTo(power(width - 1)) < 0;
    }

    private static BigInteger[] ends(BigInteger... numbers) {
        BigInteger[] sorted = numbers.clone();
        Arrays.sort(sorted);
        return new BigInteger[] {sorted[0], sorted[sorted.length - 1]};
    }

    private BigInteger[] spanOf(int number) {
        Act act = acts.get(number);
        BigInteger[] wide = {power(act.width() - 1).negate(), power(act.width() - 1).subtract(BigInteger.ONE)};
        BigInteger[] x = act.operands().isEmpty() ? wide : spanOf(act.operand(0));
        BigInteger[] y = act.operands().size() < 2 ? wide : spanOf(act.operand(1));
        BigInteger[] z = act.operands().size() < 3 ? wide : spanOf(act.operand(2));
        BigInteger[] span = switch (act.op()) {
            case 0 -> ends(BigInteger.valueOf(cut(act.told(), act.width())));
            case 2 -> ends(x[0].add(y[0]), x[1].add(y[1]));
            case 3 -> ends(x[0].subtract(y[1]), x[1].subtract(y[0]));
            case 4 -> ends(x[0].multiply(y[0]), x[0].multiply(y[1]), x[1].multiply(y[0]), x[1].multiply(y[1]));
            case 5 -> ends(x[0], x[1], x[0].negate(), x[1].negate());
            case 6 -> compared(x, y);
            case 7 -> picked(x, y, z);
            case 9 -> y;
            case 10 -> x;
            default -> wide;
        };
        return inWidth(span, act.width()) ? span : wide;
    }

    private static BigInteger[] compared(BigInteger[] x, BigInteger[] y) {
        if (x[1].compareTo(y[0]) < 0) {
            return ends(BigInteger.ONE);
        }
        return x[0].compareTo(y[1]) >= 0 ? ends(BigInteger.ZERO) : ends(BigInteger.ZERO, BigInteger.ONE);
    }

    private static BigInteger[] picked(BigInteger[] x, BigInteger[] y, BigInteger[] z) {
        if (x[0].signum() == 0 && x[1].signum() == 0) {
            return z;
        }
        return x[0].signum() * x[1].signum() > 0 ? y : ends(y[0], z[0], y[1], z[1]);
    }

    int act(int act, int what) {
        if (no(act) || what < 0 || what > 8) {
            return -1;
        }
        Act it = acts.get(act);
        return switch (what) {
            case 0 -> it.op();
            case 1 -> it.width();
            case 5 -> it.port();
            case 6 -> lengthOf(it);
            case 7 -> bitsOf(act);
            case 8 -> kindOf(it);
            default -> it.operand(what - 2);
        };
    }

    private int bitsOf(int act) {
        int n = 1;
        while (!inWidth(spanOf(act), n)) {
            n++;
        }
        return n;
    }

    long span(int act, boolean greatest) {
        if (no(act)) {
            throw new IllegalArgumentException();
        }
        return spanOf(act)[greatest ? 1 : 0].longValueExact();
    }

    private boolean overlap(int a, int b) {
        BigInteger[] p = spanOf(acts.get(a).operand(0));
        BigInteger[] q = spanOf(acts.get(b).operand(0));
        return p[0].max(q[0]).compareTo(p[1].min(q[1])) <= 0;
    }

    int needs(int a, int b) {
        if (no(a) || no(b) || a >= b) {
            return -1;
        }
        Act early = acts.get(a);
        Act late = acts.get(b);
        Set<Integer> asked = new HashSet<>(Set.of(0));
        if (late.operands().contains(a)) {
            asked.add(lengthOf(early));
        }
        if (kindOf(early) == 3 && kindOf(late) == 3 && early.op() + late.op() > 16 && overlap(a, b)) {
            asked.add(1);
        }
        if (early.op() == late.op() && (early.op() == 1 || early.op() == 10) && early.port() == late.port()) {
            asked.add(1);
        }
        if (Set.of(1, 5, 8, 9).contains(early.op()) && Set.of(1, 9, 10).contains(late.op())) {
            asked.add(lengthOf(early));
        }
        return asked.stream().max(Comparator.naturalOrder()).orElseThrow();
    }

    private int earliest(int b, List<Seat> before) {
        int tick = 0;
        for (int a = 0; a < b; a++) {
            if (needs(a, b) > 0) {
                tick = Math.max(tick, before.get(a).tick() + needs(a, b));
            }
        }
        return tick;
    }

    private List<Seat> seatAll(int[] stock) {
        Set<List<Integer>> filled = new HashSet<>();
        List<Seat> all = new ArrayList<>();
        for (int b = 0; b < acts.size(); b++) {
            int kind = kindOf(acts.get(b));
            Seat seat = kind == -2 ? new Seat(earliest(b, all), -2) : null;
            for (int t = earliest(b, all); seat == null; t++) {
                for (int p = 0; p < stock[kind] && seat == null; p++) {
                    Set<List<Integer>> wanted = new HashSet<>();
                    for (int i = 0; i < (piped[kind] ? 1 : lengths[kind]); i++) {
                        wanted.add(List.of(kind, p, t + i));
                    }
                    if (wanted.stream().noneMatch(filled::contains)) {
                        filled.addAll(wanted);
                        seat = new Seat(t, p);
                    }
                }
            }
            all.add(seat);
        }
        return all;
    }

    private int allTicks(List<Seat> all) {
        int greatest = 0;
        for (int a = 0; a < all.size(); a++) {
            greatest = Math.max(greatest, all.get(a).tick() + lengthOf(acts.get(a)));
        }
        return greatest;
    }

    /** The ticks at which the number of an act lives, in order. */
    private List<Integer> life(int a) {
        List<Integer> ticks = new ArrayList<>();
        int last = -1;
        for (int b = 0; b < acts.size(); b++) {
            if (acts.get(b).operands().contains(a)) {
                last = Math.max(last, seats.get(b).tick());
            }
        }
        if (acts.get(a).op() != 0) {
            for (int t = seats.get(a).tick() + lengthOf(acts.get(a)); t <= last; t++) {
                ticks.add(t);
            }
        }
        return ticks;
    }

    int lay() {
        if (acts.isEmpty()) {
            return -2;
        }
        seats = seatAll(parts);
        registerOf = new TreeMap<>();
        List<Integer> living = new ArrayList<>();
        for (int a = 0; a < acts.size(); a++) {
            if (!life(a).isEmpty()) {
                living.add(a);
            }
        }
        living.sort(Comparator.comparing((Integer a) -> life(a).get(0)).thenComparing(a -> a));
        List<Set<Integer>> files = new ArrayList<>();
        for (int a : living) {
            int r = 0;
            while (r < files.size() && life(a).stream().anyMatch(files.get(r)::contains)) {
                r++;
            }
            if (r == files.size()) {
                files.add(new HashSet<>());
            }
            files.get(r).addAll(life(a));
            registerOf.put(a, r);
        }
        return allTicks(seats);
    }

    int tick(int act, int what) {
        if (no(act) || what < 0 || what > 6) {
            return -1;
        }
        if (seats == null) {
            return -3;
        }
        List<Integer> life = life(act);
        return switch (what) {
            case 0 -> seats.get(act).tick();
            case 1 -> seats.get(act).part();
            case 2 -> justBehind(act);
            case 3 -> seats.get(act).tick() == earliest(act, seats) ? 0 : 1;
            case 4 -> registerOf.getOrDefault(act, -2);
            case 5 -> life.isEmpty() ? -2 : life.get(0);
            default -> life.isEmpty() ? -2 : life.get(life.size() - 1);
        };
    }

    private int justBehind(int b) {
        for (int a = 0; a < b; a++) {
            if (needs(a, b) > 0 && seats.get(b).tick() - seats.get(a).tick() == needs(a, b)) {
                return a;
            }
        }
        return -2;
    }

    int bound(int what) {
        if (what < 0 || what > 5) {
            return -1;
        }
        List<Integer> all = new ArrayList<>(List.of(allTicks(seatAll(new int[] {16, 16, 16, 16}))));
        for (int kind = 0; kind < 4; kind++) {
            int wanted = kind;
            long users = acts.stream().filter(a -> kindOf(a) == wanted).count();
            double ticks = users * (piped[kind] ? 1 : lengths[kind]);
            all.add((int) Math.ceil(ticks / parts[kind]));
        }
        return what == 5 ? all.stream().max(Comparator.naturalOrder()).orElseThrow() : all.get(what);
    }

    int registers() {
        return seats == null ? -3 : (int) registerOf.values().stream().distinct().count();
    }

    int chooser(int kind, int i, boolean second) {
        if (kind < 0 || kind > 3 || i < 0 || i >= parts[kind]) {
            return -1;
        }
        if (seats == null) {
            return -3;
        }
        Set<String> sources = new HashSet<>();
        for (int a = 0; a < acts.size(); a++) {
            int operand = acts.get(a).operand(second ? 1 : 0);
            if (kindOf(acts.get(a)) == kind && seats.get(a).part() == i && operand != -2) {
                sources.add(acts.get(operand).op() == 0 ? "const " + operand : "register " + registerOf.get(operand));
            }
        }
        return sources.size();
    }

    int at(int tick, int i) {
        if (tick < 0 || i < 0) {
            return -1;
        }
        if (seats == null) {
            return -3;
        }
        List<Integer> there = new ArrayList<>();
        for (int a = 0; a < acts.size(); a++) {
            if (seats.get(a).tick() == tick) {
                there.add(a);
            }
        }
        return i < there.size() ? there.get(i) : -2;
    }

    private static long cut(long v, int width) {
        BigInteger size = power(width);
        BigInteger low = BigInteger.valueOf(v).mod(size);
        return (low.compareTo(power(width - 1)) < 0 ? low : low.subtract(size)).longValueExact();
    }

    int run(boolean laid) {
        if (acts.isEmpty()) {
            return -2;
        }
        if (laid && seats == null) {
            return -3;
        }
        latest = new Ran();
        if (laid) {
            runTicks();
        } else {
            long[] numbers = new long[16];
            for (int a = 0; a < acts.size() && latest.failure == null; a++) {
                Long number = begin(a, operandsFrom(a, numbers));
                numbers[a] = number == null ? 0 : number;
            }
        }
        return latest.failure == null ? 0 : latest.failure.how();
    }

    private long[] operandsFrom(int a, long[] numbers) {
        return acts.get(a).operands().stream().mapToLong(x -> numbers[x]).toArray();
    }

    private void runTicks() {
        Map<Integer, Long> registers = new HashMap<>();
        Map<Integer, Map<Integer, Long>> coming = new TreeMap<>();
        for (int t = 0; t <= allTicks(seats); t++) {
            coming.getOrDefault(t, Map.of()).forEach(registers::put);
            for (int a = 0; a < acts.size(); a++) {
                boolean stopped = latest.failure != null && latest.failure.act() < a;
                if (seats.get(a).tick() != t || stopped) {
                    continue;
                }
                long[] operands = acts.get(a).operands().stream().mapToLong(x ->
                        acts.get(x).op() == 0 ? cut(acts.get(x).told(), acts.get(x).width())
                                : registers.get(registerOf.get(x))).toArray();
                Long number = begin(a, operands);
                if (number != null && registerOf.containsKey(a)) {
                    coming.computeIfAbsent(t + lengthOf(acts.get(a)), k -> new HashMap<>())
                            .put(registerOf.get(a), number);
                }
            }
        }
        latest.end = latest.failure == null ? allTicks(seats) : seats.get(latest.failure.act()).tick();
    }

    /** The number that an act gives, or null if it fails. */
    private Long begin(int a, long[] n) {
        Act act = acts.get(a);
        latest.begun.add(a);
        int how = howItFails(act, n);
        if (how != 0) {
            latest.failure = new Failure(a, how);
            return null;
        }
        long given = switch (act.op()) {
            case 0 -> act.told();
            case 1 -> fed.get(act.port()).get(latest.taken.merge(act.port(), 1, Integer::sum) - 1);
            case 2 -> n[0] + n[1];
            case 3 -> n[0] - n[1];
            case 4 -> n[0] * n[1];
            case 5 -> n[0] / n[1];
            case 6 -> n[0] < n[1] ? 1 : 0;
            case 7 -> n[0] == 0 ? n[2] : n[1];
            case 8 -> latest.row[(int) n[0]];
            case 9 -> n[1];
            default -> n[0];
        };
        long number = cut(given, act.width());
        if (act.op() == 9) {
            latest.row[(int) n[0]] = number;
        }
        if (act.op() == 10) {
            latest.put.computeIfAbsent(act.port(), p -> new ArrayList<>()).add(number);
        }
        return number;
    }

    private int howItFails(Act act, long[] n) {
        if (act.op() == 5 && n[1] == 0) {
            return 1;
        }
        if (kindOf(act) == 3 && (n[0] < 0 || n[0] > 15)) {
            return 2;
        }
        int left = act.op() == 1
                ? fed.getOrDefault(act.port(), List.of()).size() - latest.taken.getOrDefault(act.port(), 0) : 1;
        return left == 0 ? 3 : 0;
    }

    int told(int what) {
        if (what < 0 || what > 4) {
            return -1;
        }
        if (latest == null) {
            return -3;
        }
        return switch (what) {
            case 0 -> latest.failure == null ? 0 : latest.failure.how();
            case 1 -> latest.failure == null ? -2 : latest.failure.act();
            case 2 -> latest.begun.size();
            case 3 -> latest.end;
            default -> latest.put.values().stream().mapToInt(List::size).sum();
        };
    }

    long out(int port, int i) {
        if (port < 0 || port > 3 || i < 0) {
            throw new IllegalArgumentException();
        }
        if (latest == null) {
            throw new IllegalStateException();
        }
        List<Long> put = latest.put.getOrDefault(port, List.of());
        if (i >= put.size()) {
            throw new IllegalArgumentException();
        }
        return put.get(i);
    }

    int outs(int port) {
        if (port < 0 || port > 3) {
            return -1;
        }
        return latest == null ? -3 : latest.put.getOrDefault(port, List.of()).size();
    }

    long row(int place) {
        if (place < 0 || place > 15) {
            throw new IllegalArgumentException();
        }
        if (latest == null) {
            throw new IllegalStateException();
        }
        return latest.row[place];
    }

    int count(int what) {
        return switch (what) {
            case 0 -> acts.size();
            case 1 -> acts.stream().mapToInt(a -> a.operands().size()).sum();
            case 2 -> fed.values().stream().mapToInt(List::size).sum();
            case 3, 4, 5, 6 -> parts[what - 3];
            default -> -1;
        };
    }

    int keep(int d, int what, int k) {
        if (d < 0 || d > 7 || what < 0 || what == 2 || what > 4 || what == 1 && no(k)) {
            return -1;
        }
        if (what == 3 && seats == null) {
            return -3;
        }
        shelves[d] = switch (what) {
            case 0 -> null;
            case 1 -> acts.get(k);
            case 3 -> seats.stream().mapToInt(Seat::tick).toArray();
            default -> told.clone();
        };
        return 0;
    }

    int make(int d, int what, int n) {
        if (d < 0 || d > 7 || what < 3 || what > 4 || n > 60) {
            return -1;
        }
        if (n < 0) {
            return -14;
        }
        shelves[d] = what == 3 ? new int[n] : new long[n];
        return 0;
    }

    long element(int d, int i) {
        if (d < 0 || d > 7) {
            throw new IllegalArgumentException();
        }
        if (shelves[d] instanceof int[] ints && i >= 0 && i < ints.length) {
            return ints[i];
        }
        if (shelves[d] instanceof long[] longs && i >= 0 && i < longs.length) {
            return longs[i];
        }
        throw new IllegalStateException();
    }

    int copy(int d, int i, int e, int j, int n) {
        if (d < 0 || d > 7 || e < 0 || e > 7) {
            return -1;
        }
        if (shelves[d] == null || shelves[e] == null) {
            return -11;
        }
        if (shelves[d].getClass() != shelves[e].getClass() || shelves[d] instanceof Act) {
            return -12;
        }
        try {
            System.arraycopy(shelves[d], i, shelves[e], j, n);
            return n;
        } catch (IndexOutOfBoundsException none) {
            return -13;
        }
    }

    int weight(int d) {
        if (d < 0 || d > 7) {
            return -1;
        }
        if (!(shelves[d] instanceof Act act)) {
            return shelves[d] == null ? -11 : -12;
        }
        int weight = act.width() + 10 * act.operands().size();
        weight += act.op() == 4 || act.op() == 5 ? 100 : 0;
        weight *= act.op() == 5 ? 2 : 1;
        weight += Set.of(1, 8, 9, 10).contains(act.op()) ? 7 : 0;
        weight += Set.of(1, 10).contains(act.op()) ? 1000 : 0;
        return weight;
    }

    int toss(int d) {
        if (weight(d) < 0) {
            return weight(d);
        }
        return Map.of(1, 3, 5, 1, 8, 2, 9, 2).getOrDefault(((Act) shelves[d]).op(), -15);
    }
}
