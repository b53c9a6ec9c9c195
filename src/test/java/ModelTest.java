import java.util.Random;

/** Long runs of calls, drawn with a fixed seed, on the class and on the model side by side. */
public final class ModelTest {
    private static final int RUNS = 6000;
    /** Of five calls each; with what looks at the end, an object gets no more than 512 calls. */
    private static final int TURNS = 58;
    private static final int[] ODD_INTS = {
        -1, 6, 7, 8, -6, -7, 13, -13, 41, 190, 1000, Integer.MIN_VALUE, Integer.MAX_VALUE,
    };
    private static final long[] ODD_LONGS = {
        0, 1, -1, 5, -5, 9, 10, 999999, 1000000, 1000001, 500000, -999999999999L, 1000000000000L,
        999999999999999999L, 1000000000000000000L, 999999000000999999L, 1000000999999L, 500000000000000000L,
        Long.MAX_VALUE, Long.MIN_VALUE, Long.MIN_VALUE + 1,
    };

    private final Random random;
    private final Check check;
    private DecimalRegisters x;
    private Model model;

    private ModelTest(long seed, Check check) {
        this.random = new Random(seed);
        this.check = check;
    }

    public static void main(String[] args) {
        int runs = args.length > 0 ? Integer.parseInt(args[0]) : RUNS;
        long seed = args.length > 1 ? Long.parseLong(args[1]) : 1;
        Check check = new Check();
        for (int run = 0; run < runs && !check.hasFailed(); run++) {
            new ModelTest(seed * 1_000_003 + run, check).run();
        }
        check.end("ModelTest");
    }

    private void run() {
        x = new DecimalRegisters();
        model = new Model();
        int growth = random.nextInt(4);
        for (int turns = 0; turns < TURNS && !check.hasFailed(); turns++) {
            change(growth);
            glance(register());
            ask();
        }
        int i = random.nextInt(6);
        check.holds("at the end of a run", x, i, model.held(i));
        writeWhole(i);
    }

    private void writeWhole(int i) {
        x.write(i);
        int length = model.write(i);
        for (int tries = 0; tries < 12; tries++) {
            int k = random.nextInt(length + 2) - 1;
            check.due("octet(" + k + ")", x.octet(k), model.octet(k));
        }
    }

    private int register() {
        return random.nextInt(60) == 0 ? odd() : random.nextInt(6);
    }

    private int odd() {
        return ODD_INTS[random.nextInt(ODD_INTS.length)];
    }

    private int upTo(int most) {
        return random.nextInt(60) == 0 ? odd() : random.nextInt(most + 1);
    }

    private int around(int most) {
        return random.nextInt(60) == 0 ? odd() : random.nextInt(2 * most + 1) - most;
    }

    private long number() {
        switch (random.nextInt(5)) {
            case 0: return ODD_LONGS[random.nextInt(ODD_LONGS.length)];
            case 1: return random.nextInt(21) - 10;
            case 2: return random.nextLong() % 1_000_000_000_000_000_000L;
            case 3: return random.nextLong() >> random.nextInt(64);
            default: return ODD_LONGS[random.nextInt(ODD_LONGS.length)] + random.nextInt(3) - 1;
        }
    }

    private void change(int growth) {
        int k = register();
        int i = register();
        int j = register();
        int drawn = random.nextInt(20 + 5 * growth);
        if (drawn >= 20) {
            pushOn(k);
            return;
        }
        switch (drawn / 2) {
            case 0: loadOn(k); break;
            case 1: pushOn(k); break;
            case 2: case 3: reckonOn(k, i, j); break;
            case 4: divideOn(k, i, j); break;
            case 5: partOn(k, register(), i, j); break;
            case 6: scaleOn(k, i); break;
            case 7: roundOn(k, i); break;
            case 8: turnOrMoveOn(k, i); break;
            default: powerOn(k, i); break;
        }
    }

    private void loadOn(int k) {
        long v = number();
        int scale = around(6);
        check.due("load(" + k + ", " + v + ", " + scale + ")", x.load(k, v, scale), model.load(k, v, scale));
    }

    private void pushOn(int k) {
        long v = number();
        check.due("push(" + k + ", " + v + ")", x.push(k, v), model.push(k, v));
    }

    private void reckonOn(int k, int i, int j) {
        int op = upTo(4);
        check.due("reckon(" + op + ", " + k + ", " + i + ", " + j + ")", x.reckon(op, k, i, j),
                model.reckon(op, k, i, j));
    }

    private void divideOn(int k, int i, int j) {
        int scale = around(6);
        int way = upTo(7);
        check.due("divide(" + k + ", " + i + ", " + j + ", " + scale + ", " + way + ")",
                x.divide(k, i, j, scale, way), model.divide(k, i, j, scale, way));
    }

    private void partOn(int q, int r, int i, int j) {
        check.due("part(" + q + ", " + r + ", " + i + ", " + j + ")", x.part(q, r, i, j), model.part(q, r, i, j));
    }

    private void scaleOn(int k, int i) {
        int scale = around(6);
        int way = upTo(7);
        check.due("scale(" + k + ", " + i + ", " + scale + ", " + way + ")", x.scale(k, i, scale, way),
                model.scale(k, i, scale, way));
    }

    private void roundOn(int k, int i) {
        int precision = upTo(3) == 0 ? upTo(200) : Math.max(model.look(1, i), 0) - upTo(20) + 1;
        int way = upTo(7);
        check.due("round(" + k + ", " + i + ", " + precision + ", " + way + ")", x.round(k, i, precision, way),
                model.round(k, i, precision, way));
    }

    private void turnOrMoveOn(int k, int i) {
        int op = upTo(2);
        int n = around(12);
        if (random.nextBoolean()) {
            check.due("turn(" + op + ", " + k + ", " + i + ")", x.turn(op, k, i), model.turn(op, k, i));
        } else {
            check.due("move(" + op + ", " + k + ", " + i + ", " + n + ")", x.move(op, k, i, n),
                    model.move(op, k, i, n));
        }
    }

    private void powerOn(int k, int i) {
        int n = random.nextBoolean() ? upTo(3) : upTo(40);
        check.due("power(" + k + ", " + i + ", " + n + ")", x.power(k, i, n), model.power(k, i, n));
    }

    /** Three calls that tell most of what a register has. */
    private void glance(int i) {
        int what = upTo(2);
        int n = upTo(195);
        check.due("look(" + what + ", " + i + ")", x.look(what, i), model.look(what, i));
        check.due("digit(" + i + ", " + n + ")", x.digit(i, n), model.digit(i, n));
        check.due("whole(" + i + ")", x.whole(i), model.whole(i));
    }

    private void ask() {
        int i = register();
        int j = register();
        int k = upTo(200);
        switch (random.nextInt(4)) {
            case 0: check.due("compare(" + i + ", " + j + ")", x.compare(i, j), model.compare(i, j)); break;
            case 1: check.due("same(" + i + ", " + j + ")", x.same(i, j), model.same(i, j)); break;
            case 2: check.due("write(" + i + ")", x.write(i), model.write(i)); break;
            default: check.due("octet(" + k + ")", x.octet(k), model.octet(k)); break;
        }
    }
}
