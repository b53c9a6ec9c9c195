/** Counts the answers that are not the ones that are due, and prints each of them. */
final class Check {
    private static final long MOST_MILLISECONDS_FOR_AN_ANSWER = 60_000;

    private volatile int answers = 0;
    private int wrong = 0;

    /** A call that fails to end would let a test hang, so another thread sees whether answers still come. */
    Check() {
        Thread watch = new Thread(this::failWhenNoAnswerComes);
        watch.setDaemon(true);
        watch.start();
    }

    private void failWhenNoAnswerComes() {
        int seen = -1;
        while (seen != answers) {
            seen = answers;
            try {
                Thread.sleep(MOST_MILLISECONDS_FOR_AN_ANSWER);
            } catch (InterruptedException e) {
                return;
            }
        }
        System.out.println("no answer came for a minute, behind " + seen + " answers");
        Runtime.getRuntime().halt(1);
    }

    void due(String call, long got, long want) {
        due(call, Long.toString(got), Long.toString(want));
    }

    void due(String call, boolean got, boolean want) {
        due(call, Boolean.toString(got), Boolean.toString(want));
    }

    void due(String call, String got, String want) {
        answers++;
        if (!got.equals(want)) {
            wrong++;
            System.out.println(call + " answered " + got + ", due is " + want);
        }
    }

    /** Register i is held against "digits/scale", so that 1.50 is "150/2". */
    void holds(String call, DecimalRegisters x, int i, String want) {
        due(call + ": register " + i, held(x, i), want);
    }

    void writes(String call, DecimalRegisters x, int i, String want) {
        due(call + ": signs", x.write(i), want.length());
        due(call + ": text", text(x, want.length() + 2), want);
    }

    boolean hasFailed() {
        return wrong != 0;
    }

    /** Ends the program with 1 if an answer was wrong. */
    void end(String test) {
        System.out.println(test + ": " + answers + " answers, " + wrong + " not as due");
        if (hasFailed()) {
            System.exit(1);
        }
    }

    static String text(DecimalRegisters x, int most) {
        StringBuilder out = new StringBuilder();
        for (int k = 0; k < most && x.octet(k) != -1; k++) {
            out.append((char) x.octet(k));
        }
        return out.toString();
    }

    static String held(DecimalRegisters x, int i) {
        StringBuilder out = new StringBuilder();
        for (int n = x.look(1, i) - 1; n >= 0; n--) {
            out.append(x.digit(i, n));
        }
        return (x.look(0, i) < 0 ? "-" : "") + out + "/" + x.look(2, i);
    }

    /** How many digits "digits/scale" has. */
    static int precision(String decimal) {
        return decimal.indexOf('/') - (decimal.startsWith("-") ? 1 : 0);
    }

    /** Fills register k with "digits/scale" of any length, by load and push. */
    static void fill(DecimalRegisters x, int k, String decimal) {
        int slash = decimal.indexOf('/');
        int scale = Integer.parseInt(decimal.substring(slash + 1));
        int end = slash - (precision(decimal) - 1) / 18 * 18;
        x.load(k, Long.parseLong(decimal.substring(0, end)), scale);
        for (; end < slash; end += 18) {
            x.push(k, Long.parseLong(decimal.substring(end, end + 18)));
        }
    }
}
