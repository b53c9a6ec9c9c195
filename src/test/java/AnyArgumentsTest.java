import java.util.Arrays;

/**
 * LANGUAGE.md, rule 7: "No call may ever throw or fail to end, for any arguments in any state". Each call gets every
 * mixture of the arguments below in each of the states below, on the class and on the model side by side.
 */
public final class AnyArgumentsTest {
    private interface Call {
        long on(DecimalRegisters x, int[] a);
    }

    private interface ModelCall {
        long on(Model x, int[] a);
    }

    private static final int LEAST = Integer.MIN_VALUE;
    private static final int MOST = Integer.MAX_VALUE;
    private static final int[] REGISTERS = {LEAST, -1, 0, 1, 2, 3, 4, 5, 6, MOST};
    private static final int[] SOME_REGISTERS = {LEAST, -1, 0, 5, 6, MOST};
    private static final int[] OPS = {LEAST, -1, 0, 1, 2, 3, 4, 5, MOST};
    private static final int[] SCALES = {LEAST, -7, -6, -1, 0, 1, 6, 7, MOST};
    private static final int[] WAYS = {LEAST, -1, 0, 1, 2, 3, 4, 5, 6, 7, 8, MOST};
    private static final int[] NUMBERS = {
        LEAST, LEAST + 1, -191, -41, -19, -13, -12, -7, -6, -1, 0, 1, 2, 3, 5, 6, 7, 11, 12, 13, 18, 19, 38, 40, 41,
        171, 172, 189, 190, 191, 196, 197, 199, 200, 201, MOST - 1, MOST,
    };
    private static final long[] LONGS = {
        Long.MIN_VALUE, Long.MIN_VALUE + 1, -1_000_000_000_000_000_000L, -1, 0, 1, 999_999, 1_000_000,
        999_999_999_999_999_999L, 1_000_000_000_000_000_000L, Long.MAX_VALUE,
    };
    private static final int[] LONGS_AT = {0, 1, 2, 3, 4, 5, 6, 7, 8, 9, 10};
    private static final String LONGEST = "9".repeat(190);
    private static final String[][] STATES = {
        {"0/0", "0/0", "0/0", "0/0", "0/0", "0/0"},
        {LONGEST + "/-6", "-" + LONGEST + "/6", "1" + "0".repeat(189) + "/0", "0/6", "-1/6", "0/-6"},
        {"-125/2", "3/0", "999999/-3", "-1000000/6", "5/-6", "1" + "0".repeat(95) + "/0"},
    };
    /** With what looks at the state behind each, an object gets no more than 512 calls. */
    private static final int CALLS_ON_AN_OBJECT = 20;

    private static final Check CHECK = new Check();

    private final String[] state;
    private DecimalRegisters x;
    private Model model;
    private int calls;

    private AnyArgumentsTest(String[] state) {
        this.state = state;
    }

    public static void main(String[] args) {
        for (String[] state : STATES) {
            AnyArgumentsTest test = new AnyArgumentsTest(state);
            test.callsThatChange();
            test.callsThatRound();
            test.callsThatAsk();
        }
        CHECK.end("AnyArgumentsTest");
    }

    private void callsThatChange() {
        mix("load", (x, a) -> x.load(a[0], LONGS[a[1]], a[2]), (m, a) -> m.load(a[0], LONGS[a[1]], a[2]),
                REGISTERS, LONGS_AT, NUMBERS);
        mix("push", (x, a) -> x.push(a[0], LONGS[a[1]]), (m, a) -> m.push(a[0], LONGS[a[1]]), REGISTERS, LONGS_AT);
        mix("reckon", (x, a) -> x.reckon(a[0], a[1], a[2], a[3]), (m, a) -> m.reckon(a[0], a[1], a[2], a[3]),
                OPS, SOME_REGISTERS, REGISTERS, REGISTERS);
        mix("part", (x, a) -> x.part(a[0], a[1], a[2], a[3]), (m, a) -> m.part(a[0], a[1], a[2], a[3]),
                REGISTERS, REGISTERS, REGISTERS, REGISTERS);
        mix("turn", (x, a) -> x.turn(a[0], a[1], a[2]), (m, a) -> m.turn(a[0], a[1], a[2]),
                OPS, REGISTERS, REGISTERS);
        mix("move", (x, a) -> x.move(a[0], a[1], a[2], a[3]), (m, a) -> m.move(a[0], a[1], a[2], a[3]),
                OPS, SOME_REGISTERS, REGISTERS, NUMBERS);
        mix("power", (x, a) -> x.power(a[0], a[1], a[2]), (m, a) -> m.power(a[0], a[1], a[2]),
                REGISTERS, REGISTERS, NUMBERS);
    }

    private void callsThatRound() {
        mix("divide", (x, a) -> x.divide(a[0], a[1], a[2], a[3], a[4]),
                (m, a) -> m.divide(a[0], a[1], a[2], a[3], a[4]),
                SOME_REGISTERS, REGISTERS, REGISTERS, SCALES, WAYS);
        mix("scale", (x, a) -> x.scale(a[0], a[1], a[2], a[3]), (m, a) -> m.scale(a[0], a[1], a[2], a[3]),
                SOME_REGISTERS, REGISTERS, NUMBERS, WAYS);
        mix("round", (x, a) -> x.round(a[0], a[1], a[2], a[3]), (m, a) -> m.round(a[0], a[1], a[2], a[3]),
                SOME_REGISTERS, REGISTERS, NUMBERS, WAYS);
    }

    private void callsThatAsk() {
        mix("compare", (x, a) -> x.compare(a[0], a[1]), (m, a) -> m.compare(a[0], a[1]), REGISTERS, REGISTERS);
        mix("same", (x, a) -> x.same(a[0], a[1]) ? 1 : 0, (m, a) -> m.same(a[0], a[1]) ? 1 : 0,
                REGISTERS, REGISTERS);
        mix("look", (x, a) -> x.look(a[0], a[1]), (m, a) -> m.look(a[0], a[1]), NUMBERS, REGISTERS);
        mix("digit", (x, a) -> x.digit(a[0], a[1]), (m, a) -> m.digit(a[0], a[1]), REGISTERS, NUMBERS);
        mix("whole", (x, a) -> x.whole(a[0]), (m, a) -> m.whole(a[0]), REGISTERS);
        mix("octet at first", (x, a) -> x.octet(a[0]), (m, a) -> m.octet(a[0]), NUMBERS);
        mix("write and octet", (x, a) -> 1000L * x.write(a[0]) + x.octet(a[1]),
                (m, a) -> 1000L * m.write(a[0]) + m.octet(a[1]), REGISTERS, NUMBERS);
    }

    /** Makes a call with each mixture of arguments, one from each row. */
    private void mix(String name, Call call, ModelCall modelCall, int[]... rows) {
        renew();
        int[] at = new int[rows.length];
        int[] a = new int[rows.length];
        boolean more = true;
        while (more) {
            for (int n = 0; n < rows.length; n++) {
                a[n] = rows[n][at[n]];
            }
            due(name, call, modelCall, a);
            more = next(at, rows);
        }
    }

    private static boolean next(int[] at, int[][] rows) {
        for (int n = 0; n < rows.length; n++) {
            at[n]++;
            if (at[n] < rows[n].length) {
                return true;
            }
            at[n] = 0;
        }
        return false;
    }

    private void due(String name, Call call, ModelCall modelCall, int[] a) {
        String told = name + Arrays.toString(a);
        long want = modelCall.on(model, a);
        CHECK.due(told, call.on(x, a), want);
        for (int i = 0; i < 6; i++) {
            CHECK.due(told + ", then look(1)", x.look(1, i), model.look(1, i));
            CHECK.due(told + ", then look(2)", x.look(2, i), model.look(2, i));
            CHECK.due(told + ", then whole", x.whole(i), model.whole(i));
        }
        calls++;
        if (want >= 0 || calls == CALLS_ON_AN_OBJECT) {
            renew();
        }
    }

    private void renew() {
        x = new DecimalRegisters();
        model = new Model();
        for (int k = 0; k < 6; k++) {
            Check.fill(x, k, state[k]);
            model.fill(k, state[k]);
        }
        calls = 0;
    }
}
