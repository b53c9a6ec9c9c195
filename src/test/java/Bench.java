import java.util.Arrays;

/**
 * What the tests that go through the document stand on: cases of one call, behind which the whole
 * state is looked at, all six registers and THE TEXT. A decimal is told as "digits/scale", so that
 * 1.50 is "150/2".
 */
abstract class Bench {
    interface Call {
        int on(DecimalRegisters x);
    }

    static final int REFUSED = DecimalRegisters.REFUSED;
    static final int NONE = DecimalRegisters.NONE;
    static final int FULL = DecimalRegisters.FULL;
    static final int INEXACT = DecimalRegisters.INEXACT;

    static final int REGISTERS = 6;
    /** The register that most cases write to. */
    static final int OUT = 5;
    static final String BEFORE = "-77/3";
    static final String TEXT_BEFORE = "-0.077";
    static final int[] NO_REGISTERS = {-1, 6, 7, Integer.MIN_VALUE, Integer.MAX_VALUE};
    static final int[] NO_WAYS = {-1, 8, Integer.MIN_VALUE, Integer.MAX_VALUE};
    static final int[] NO_SCALES = {-7, 7, Integer.MIN_VALUE, Integer.MAX_VALUE};
    /** No two registers hold the same at first, so that none is taken for another. */
    private static final String[] AT_FIRST = {"11/1", "-22/-2", "33/3", "-44/4", "55/-5", BEFORE};

    static final Check CHECK = new Check();

    static String nines(int count) {
        return "9".repeat(count);
    }

    static String zeros(int count) {
        return "0".repeat(count);
    }

    static String ten(int power) {
        return "1" + zeros(power);
    }

    /** What the registers hold if the first of them hold the decimals. */
    static String[] state(String... decimals) {
        String[] state = Arrays.copyOf(AT_FIRST, REGISTERS);
        System.arraycopy(decimals, 0, state, 0, decimals.length);
        return state;
    }

    /** A new object whose registers 0, 1, .. hold the decimals, and whose text is not empty. */
    static DecimalRegisters with(String... decimals) {
        String[] state = state(decimals);
        DecimalRegisters x = new DecimalRegisters();
        Check.fill(x, OUT, BEFORE);
        x.write(OUT);
        for (int k = 0; k < REGISTERS; k++) {
            Check.fill(x, k, state[k]);
        }
        return x;
    }

    /** The call answers the precision of what register OUT holds then, and changes nothing else. */
    static void kept(String name, Call call, String want, String... decimals) {
        keptIn(OUT, name, call, want, decimals);
    }

    static void keptIn(int k, String name, Call call, String want, String... decimals) {
        String[] behind = state(decimals);
        behind[k] = want;
        leaves(name, call, Check.precision(want), behind, decimals);
    }

    /** The call gives an answer, and changes nothing at all. */
    static void notKept(String name, Call call, int answer, String... decimals) {
        leaves(name, call, answer, state(decimals), decimals);
    }

    static void leaves(String name, Call call, int answer, String[] behind, String... decimals) {
        leavesText(name, call, answer, behind, TEXT_BEFORE, decimals);
    }

    /** Each part of the state is looked at on an object of its own, since one is used for 512 calls at most. */
    static void leavesText(String name, Call call, int answer, String[] behind, String text, String... decimals) {
        for (int i = 0; i < REGISTERS; i++) {
            DecimalRegisters x = with(decimals);
            CHECK.due(name, call.on(x), answer);
            CHECK.holds(name, x, i, behind[i]);
        }
        DecimalRegisters x = with(decimals);
        CHECK.due(name, call.on(x), answer);
        CHECK.due(name + ": the text", Check.text(x, text.length() + 2), text);
    }
}
