import java.util.Random;

/** Made-up runs of calls on GateMaker and on Model: each answer, and each exception, is the same. */
public final class ModelTest {
    private static final int RUNS = 6000;
    private static final int CALLS = 120;
    private static final int MOST_CALLS = 512;
    private static final long[] NUMBERS = {
        0, 1, -1, 2, 3, 5, 15, 16, 127, 128, 255, -128, 65535, 1L << 31, (1L << 31) - 1, -(1L << 31),
        Long.MAX_VALUE, Long.MIN_VALUE, 1L << 32, 123456789012345L,
    };
    private static final int[] ODD = {-3, -2, -1, 16, 17, 61, Integer.MAX_VALUE, Integer.MIN_VALUE};

    private final Random dice;
    private final GateMaker maker = new GateMaker();
    private final Model model = new Model();
    private final StringBuilder calls = new StringBuilder();
    private int used = 0;

    private ModelTest(long seed) {
        dice = new Random(seed);
    }

    public static void main(String[] args) {
        for (int run = 0; run < RUNS && Check.wrongSoFar() == 0; run++) {
            ModelTest test = new ModelTest(run);
            test.build(run % 17);
            test.wander(CALLS);
            test.lookAround(run % 3);
            if (Check.wrongSoFar() != 0) {
                System.out.println("run " + run + ":" + test.calls);
            }
        }
        Check.end();
    }

    /** What the program answers, and the model too. */
    private String both(String call, Check.Call ofMaker, Check.Call ofModel) {
        calls.append(' ').append(call);
        used++;
        String answer = Check.answerOf(ofMaker);
        Check.same(call, answer, Check.answerOf(ofModel));
        return answer;
    }

    private int some(int least, int greatest) {
        if (dice.nextInt(40) == 0) {
            return ODD[dice.nextInt(ODD.length)];
        }
        return least + dice.nextInt(greatest - least + 1);
    }

    private long number() {
        return dice.nextBoolean() ? NUMBERS[dice.nextInt(NUMBERS.length)] : dice.nextInt(20) - 3;
    }

    private int width() {
        return dice.nextInt(3) == 0 ? some(1, 32) : some(4, 12);
    }

    private int anyAct() {
        return some(0, Math.max(0, model.count(0) - 1));
    }

    private void build(int size) {
        for (int port = 0; port < 4; port++) {
            for (int i = dice.nextInt(6); i > 0; i--) {
                feed(port);
            }
        }
        for (int kind = 0; kind < 4 && dice.nextBoolean(); kind++) {
            parts();
            length();
        }
        for (int i = 0; i < 3; i++) {
            if (i < size) {
                constantOrIn();
            }
        }
        for (int i = 3; i < size; i++) {
            anAct();
        }
    }

    private void constantOrIn() {
        int width = width();
        if (dice.nextInt(3) > 0) {
            long v = number();
            both("constant(" + v + "," + width + ")", () -> maker.constant(v, width), () -> model.constant(v, width));
        } else {
            int port = some(0, 3);
            both("port(" + port + ",-1," + width + ")", () -> maker.port(port, -1, width),
                    () -> model.port(port, -1, width));
        }
    }

    private void anAct() {
        int x = anyAct();
        int y = anyAct();
        int z = anyAct();
        int width = width();
        int op = some(2, 6);
        int port = some(0, 3);
        switch (dice.nextInt(8)) {
            case 0 -> constantOrIn();
            case 1 -> both("port(" + port + "," + x + "," + width + ")", () -> maker.port(port, x, width),
                    () -> model.port(port, x, width));
            case 2 -> both("pick(" + x + "," + y + "," + z + "," + width + ")", () -> maker.pick(x, y, z, width),
                    () -> model.pick(x, y, z, width));
            case 3 -> both("touch(" + x + ",-1," + width + ")", () -> maker.touch(x, -1, width),
                    () -> model.touch(x, -1, width));
            case 4 -> both("touch(" + x + "," + y + "," + width + ")", () -> maker.touch(x, y, width),
                    () -> model.touch(x, y, width));
            default -> both("reckon(" + op + "," + x + "," + y + "," + width + ")",
                    () -> maker.reckon(op, x, y, width), () -> model.reckon(op, x, y, width));
        }
    }

    private void parts() {
        int kind = some(0, 3);
        int n = some(1, 4);
        both("parts(" + kind + "," + n + ")", () -> maker.parts(kind, n), () -> model.parts(kind, n));
    }

    private void length() {
        int kind = some(0, 3);
        int n = some(1, 8);
        boolean piped = dice.nextBoolean();
        both("length(" + kind + "," + n + "," + piped + ")", () -> maker.length(kind, n, piped),
                () -> model.length(kind, n, piped));
    }

    private void feed(int port) {
        long v = number();
        both("feed(" + port + "," + v + ")", () -> maker.feed(port, v), () -> model.feed(port, v));
    }

    private void lay() {
        both("lay()", maker::lay, model::lay);
    }

    private void run(boolean laid) {
        both("run(" + laid + ")", () -> maker.run(laid), () -> model.run(laid));
    }

    private void wander(int times) {
        for (int i = 0; i < times; i++) {
            switch (dice.nextInt(10)) {
                case 0 -> change();
                case 1, 2 -> lay();
                case 3, 4 -> run(dice.nextBoolean());
                case 5, 6 -> shelf();
                default -> look();
            }
        }
    }

    private void change() {
        int place = some(0, 15);
        long v = number();
        switch (dice.nextInt(8)) {
            case 0 -> parts();
            case 1 -> length();
            case 2, 3 -> feed(some(0, 3));
            case 4 -> both("place(" + place + "," + v + ")", () -> maker.place(place, v), () -> model.place(place, v));
            case 5 -> both("drop()", maker::drop, model::drop);
            default -> anAct();
        }
    }

    private void look() {
        int a = anyAct();
        int b = anyAct();
        int what = some(-1, 9);
        int kind = some(0, 3);
        int port = some(0, 3);
        int i = some(0, 3);
        int place = some(0, 15);
        boolean flag = dice.nextBoolean();
        switch (dice.nextInt(12)) {
            case 0 -> both("act(" + a + "," + what + ")", () -> maker.act(a, what), () -> model.act(a, what));
            case 1 -> both("span(" + a + "," + flag + ")", () -> maker.span(a, flag), () -> model.span(a, flag));
            case 2 -> both("needs(" + a + "," + b + ")", () -> maker.needs(a, b), () -> model.needs(a, b));
            case 3 -> both("tick(" + a + "," + what + ")", () -> maker.tick(a, what), () -> model.tick(a, what));
            case 4 -> both("bound(" + what + ")", () -> maker.bound(what), () -> model.bound(what));
            case 5 -> both("registers()", maker::registers, model::registers);
            case 6 -> both("chooser(" + kind + "," + i + "," + flag + ")", () -> maker.chooser(kind, i, flag),
                    () -> model.chooser(kind, i, flag));
            case 7 -> both("at(" + place + "," + i + ")", () -> maker.at(place, i), () -> model.at(place, i));
            case 8 -> both("told(" + what + ")", () -> maker.told(what), () -> model.told(what));
            case 9 -> both("out(" + port + "," + i + ")", () -> maker.out(port, i), () -> model.out(port, i));
            case 10 -> both("outs(" + port + ")", () -> maker.outs(port), () -> model.outs(port));
            default -> both("row(" + place + ")", () -> maker.row(place), () -> model.row(place));
        }
    }

    private void shelf() {
        int d = some(0, 7);
        int e = some(0, 7);
        int what = some(0, 5);
        int k = anyAct();
        int i = some(-1, 20);
        int j = some(-1, 20);
        int n = some(-1, 12);
        switch (dice.nextInt(7)) {
            case 0, 1 -> both("keep(" + d + "," + what + "," + k + ")", () -> maker.keep(d, what, k),
                    () -> model.keep(d, what, k));
            case 2 -> both("make(" + d + "," + what + "," + i + ")", () -> maker.make(d, what, i),
                    () -> model.make(d, what, i));
            case 3 -> both("copy(" + d + "," + i + "," + e + "," + j + "," + n + ")",
                    () -> maker.copy(d, i, e, j, n), () -> model.copy(d, i, e, j, n));
            case 4 -> both("element(" + d + "," + i + ")", () -> maker.element(d, i), () -> model.element(d, i));
            case 5 -> both("weight(" + d + ")", () -> maker.weight(d), () -> model.weight(d));
            default -> both("toss(" + d + ")", () -> maker.toss(d), () -> model.toss(d));
        }
    }

    /** To look at all would take more calls than the document allows an object. */
    private void lookAround(int which) {
        lay();
        switch (which) {
            case 0 -> lookAtActs();
            case 1 -> lookAtNeeds();
            default -> lookAtRuns();
        }
        if (used > MOST_CALLS) {
            Check.due("calls of one object", used, MOST_CALLS);
        }
    }

    private void lookAtActs() {
        for (int a = 0; a < model.count(0); a++) {
            int act = a;
            for (int w = 0; w < 9; w++) {
                int what = w;
                both("act(" + a + "," + w + ")", () -> maker.act(act, what), () -> model.act(act, what));
                both("tick(" + a + "," + w + ")", () -> maker.tick(act, what), () -> model.tick(act, what));
            }
        }
    }

    private void lookAtNeeds() {
        for (int a = 0; a < model.count(0); a++) {
            for (int b = 0; b < model.count(0); b++) {
                int act = a;
                int other = b;
                both("needs(" + a + "," + b + ")", () -> maker.needs(act, other), () -> model.needs(act, other));
            }
        }
        for (int w = -1; w < 8; w++) {
            int what = w;
            both("bound(" + w + ")", () -> maker.bound(what), () -> model.bound(what));
            both("count(" + w + ")", () -> maker.count(what), () -> model.count(what));
        }
    }

    private void lookAtRuns() {
        run(false);
        String plain = lookAtRun();
        run(true);
        Check.same("the laid run beside the plain one", lookAtRun(), plain);
    }

    /** What a run put out, its row and its failure, which are to be the same laid and plain. */
    private String lookAtRun() {
        StringBuilder end = new StringBuilder();
        for (int w = 0; w < 5; w++) {
            int what = w;
            String answer = both("told(" + w + ")", () -> maker.told(what), () -> model.told(what));
            boolean isOfTheWay = w == 2 || w == 3;
            end.append(isOfTheWay ? "" : answer).append(' ');
        }
        for (int p = 0; p < 4; p++) {
            int port = p;
            both("outs(" + p + ")", () -> maker.outs(port), () -> model.outs(port));
            String answer = "";
            for (int i = 0; i <= 16 && !answer.startsWith("throws"); i++) {
                int k = i;
                answer = both("out(" + p + "," + i + ")", () -> maker.out(port, k), () -> model.out(port, k));
                end.append(answer).append(' ');
            }
        }
        for (int i = 0; i < 16; i++) {
            int place = i;
            end.append(both("row(" + i + ")", () -> maker.row(place), () -> model.row(place))).append(' ');
        }
        return end.toString();
    }
}
