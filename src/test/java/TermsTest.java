import java.math.BigInteger;
import java.util.Arrays;

/**
 * The sentences of "What it is" and "Terms" that name a boundary: each has a test of its own, on
 * both sides of the boundary, under the sentence's own words.
 */
public final class TermsTest extends Bench {
    /** A call with one register that varies, and two others that are there. */
    private interface At {
        int on(DecimalRegisters x, int k, int a, int b);
    }

    private static final int CALLS = 512;

    public static void main(String[] args) {
        scaleThatIsAskedFor();
        scaleThatComesOut();
        precision();
        precisionOfZero();
        registersAtFirst();
        registersWrittenTo();
        registersReadFrom();
        precisionAbove190();
        refusedFirst();
        refusedFirstForAnotherWay();
        waysAtAHalf();
        waysFarBehindTheLastDigit();
        wayNotAtAll();
        all512Calls();
        callsBehindTheLast();
        CHECK.end("TermsTest");
    }

    /** "a SCALE, -6 to 6", where the caller names it. */
    private static void scaleThatIsAskedFor() {
        for (int n = -6; n <= 6; n++) {
            int scale = n;
            leaves("load with scale " + n, x -> x.load(OUT, 5, scale), 0, behind("5/" + n));
            kept("scale 0 to " + n, x -> x.scale(OUT, 0, scale, 7), "0/" + n, "0/0");
            kept("divide to scale " + n, x -> x.divide(OUT, 0, 1, scale, 7), 3 + zeros(6 + n) + "/" + n, "6/-6", "2/0");
        }
        for (int scale : NO_SCALES) {
            notKept("load with scale " + scale, x -> x.load(OUT, 5, scale), FULL);
            notKept("load 0 with scale " + scale, x -> x.load(OUT, 0, scale), FULL);
            notKept("scale 0 to " + scale, x -> x.scale(OUT, 0, scale, 0), FULL, "0/0");
            notKept("divide to scale " + scale, x -> x.divide(OUT, 0, 1, scale, 0), FULL, "6/-6", "2/0");
        }
    }

    private static String[] behind(String out) {
        String[] behind = state();
        behind[OUT] = out;
        return behind;
    }

    /** "a SCALE, -6 to 6", where a call makes one by itself. */
    private static void scaleThatComesOut() {
        Call product = x -> x.reckon(2, OUT, 0, 1);
        kept("product, scale 6", product, "6/6", "2/3", "3/3");
        notKept("product, scale 7", product, FULL, "2/3", "3/4");
        kept("product, scale -6", product, "6/-6", "2/-3", "3/-3");
        notKept("product, scale -7", product, FULL, "2/-3", "3/-4");
        kept("power, scale 6", x -> x.power(OUT, 0, 6), "64/6", "2/1");
        notKept("power, scale 7", x -> x.power(OUT, 0, 7), FULL, "2/1");
        kept("power, scale -6", x -> x.power(OUT, 0, 6), "64/-6", "2/-1");
        notKept("power, scale -7", x -> x.power(OUT, 0, 7), FULL, "2/-1");
        for (int n = 0; n < 2; n++) {
            int op = n;
            kept("move " + op + ", scale 6", x -> x.move(op, OUT, 0, -5), "2/6", "2/1");
            notKept("move " + op + ", scale 7", x -> x.move(op, OUT, 0, -6), FULL, "2/1");
        }
        kept("move, scale -6", x -> x.move(0, OUT, 0, 7), "2/-6", "2/1");
        notKept("move, scale -7", x -> x.move(0, OUT, 0, 8), FULL, "2/1");
        kept("turn, scale -6", x -> x.turn(2, OUT, 0), "2/-6", "20/-5");
        notKept("turn, scale -7", x -> x.turn(2, OUT, 0), FULL, "20/-6");
        kept("round, scale -6", x -> x.round(OUT, 0, 1, 1), "2/-6", "21/-5");
        notKept("round, scale -7", x -> x.round(OUT, 0, 1, 1), FULL, "21/-6");
    }

    /** "PRECISION: how many digits it has". */
    private static void precision() {
        for (int n = 1; n <= 190; n++) {
            for (String digits : new String[] {nines(n), ten(n - 1), "-" + nines(n), "-" + ten(n - 1)}) {
                DecimalRegisters x = with(digits + "/3");
                CHECK.due("look(1) at " + digits, x.look(1, 0), n);
                CHECK.due("the answer for " + digits, x.turn(0, OUT, 0), n);
            }
        }
    }

    /** "(of 0: 1)". */
    private static void precisionOfZero() {
        for (int scale = -6; scale <= 6; scale++) {
            String zero = "0/" + scale;
            CHECK.due("look(1) at " + zero, with(zero).look(1, 0), 1);
            keptIn(0, "push of 0 on " + zero, x -> x.push(0, 0), zero, zero);
            kept("7 less 7 with " + zero, x -> x.reckon(1, OUT, 0, 0), zero, "7/" + scale);
            kept("round " + zero, x -> x.round(OUT, 0, 1, 7), zero, zero);
            kept("the other sign of " + zero, x -> x.turn(1, OUT, 0), zero, zero);
        }
    }

    /** "REGISTERS 0 to 5: 0 with scale 0 at first". */
    private static void registersAtFirst() {
        for (int k = 0; k < REGISTERS; k++) {
            DecimalRegisters x = new DecimalRegisters();
            CHECK.due("look(0) at first", x.look(0, k), 0);
            CHECK.due("look(1) at first", x.look(1, k), 1);
            CHECK.due("look(2) at first", x.look(2, k), 0);
            CHECK.due("digit 0 at first", x.digit(k, 0), 0);
            CHECK.due("digit 1 at first", x.digit(k, 1), -1);
            CHECK.due("whole at first", x.whole(k), 0);
            CHECK.due("the text at first", x.octet(0), -1);
            CHECK.writes("write at first", x, k, "0");
            CHECK.due("push at first", x.push(k, -7), 1);
            CHECK.holds("push at first", x, k, "7/0");
        }
    }

    /** "REGISTERS 0 to 5" to write to; a and b hold the same as each register does. */
    private static void registersWrittenTo() {
        writesTo("load", (x, k, a, b) -> x.load(k, 7, 0), 0, "7/0");
        writesTo("push", (x, k, a, b) -> x.push(k, 7), 20, "20000000000000000007/1");
        writesTo("reckon 0", (x, k, a, b) -> x.reckon(0, k, a, b), 2, "40/1");
        writesTo("reckon 1", (x, k, a, b) -> x.reckon(1, k, a, b), 1, "0/1");
        writesTo("reckon 2", (x, k, a, b) -> x.reckon(2, k, a, b), 3, "400/2");
        writesTo("reckon 3", (x, k, a, b) -> x.reckon(3, k, a, b), 2, "20/1");
        writesTo("reckon 4", (x, k, a, b) -> x.reckon(4, k, a, b), 2, "20/1");
        writesTo("divide", (x, k, a, b) -> x.divide(k, a, b, 2, 7), 3, "100/2");
        writesTo("scale", (x, k, a, b) -> x.scale(k, a, 0, 7), 1, "2/0");
        writesTo("round", (x, k, a, b) -> x.round(k, a, 1, 7), 1, "2/0");
        writesTo("turn 0", (x, k, a, b) -> x.turn(0, k, a), 2, "20/1");
        writesTo("turn 1", (x, k, a, b) -> x.turn(1, k, a), 2, "-20/1");
        writesTo("turn 2", (x, k, a, b) -> x.turn(2, k, a), 1, "2/0");
        writesTo("move 0", (x, k, a, b) -> x.move(0, k, a, 2), 2, "20/-1");
        writesTo("move 1", (x, k, a, b) -> x.move(1, k, a, 2), 3, "200/0");
        writesTo("power", (x, k, a, b) -> x.power(k, a, 2), 3, "400/2");
        writesTwo("part to q", (x, k, a, b) -> x.part(k, a, b, b), "1/0", "0/1");
        writesTwo("part to r", (x, k, a, b) -> x.part(a, k, b, b), "0/1", "1/0");
    }

    private static String[] twenties() {
        String[] twenties = new String[REGISTERS];
        Arrays.fill(twenties, "20/1");
        return twenties;
    }

    private static void writesTo(String name, At call, int answer, String want) {
        for (int n = 0; n < REGISTERS; n++) {
            int k = n;
            String[] behind = twenties();
            behind[k] = want;
            leaves(name + " " + k, x -> call.on(x, k, (k + 1) % 6, (k + 2) % 6), answer, behind, twenties());
        }
        for (int no : NO_REGISTERS) {
            notKept(name + " " + no, x -> call.on(x, no, 1, 2), REFUSED, twenties());
        }
    }

    private static void writesTwo(String name, At call, String wantAtK, String wantAtA) {
        for (int n = 0; n < REGISTERS; n++) {
            int k = n;
            String[] behind = twenties();
            behind[k] = wantAtK;
            behind[(k + 1) % 6] = wantAtA;
            leaves(name + " " + k, x -> call.on(x, k, (k + 1) % 6, (k + 2) % 6), 1, behind, twenties());
        }
        for (int no : NO_REGISTERS) {
            notKept(name + " " + no, x -> call.on(x, no, 1, 2), REFUSED, twenties());
        }
    }

    /** "REGISTERS 0 to 5" to read from; register b holds 2.0, and a is written to. */
    private static void registersReadFrom() {
        readsFrom("reckon 0 of", (x, k, a, b) -> x.reckon(0, a, k, b), "50/1");
        readsFrom("reckon 0 with", (x, k, a, b) -> x.reckon(0, a, b, k), "50/1");
        readsFrom("reckon 1 of", (x, k, a, b) -> x.reckon(1, a, k, b), "10/1");
        readsFrom("reckon 1 with", (x, k, a, b) -> x.reckon(1, a, b, k), "-10/1");
        readsFrom("reckon 2 of", (x, k, a, b) -> x.reckon(2, a, k, b), "600/2");
        readsFrom("reckon 2 with", (x, k, a, b) -> x.reckon(2, a, b, k), "600/2");
        readsFrom("reckon 3 of", (x, k, a, b) -> x.reckon(3, a, k, b), "30/1");
        readsFrom("reckon 3 with", (x, k, a, b) -> x.reckon(3, a, b, k), "30/1");
        readsFrom("reckon 4 of", (x, k, a, b) -> x.reckon(4, a, k, b), "20/1");
        readsFrom("reckon 4 with", (x, k, a, b) -> x.reckon(4, a, b, k), "20/1");
        readsFrom("divide of", (x, k, a, b) -> x.divide(a, k, b, 1, 7), "15/1");
        readsFrom("divide by", (x, k, a, b) -> x.divide(a, b, k, 1, 1), "6/1");
        readsFrom("scale of", (x, k, a, b) -> x.scale(a, k, 0, 7), "3/0");
        readsFrom("round of", (x, k, a, b) -> x.round(a, k, 1, 7), "3/0");
        readsFrom("turn 0 of", (x, k, a, b) -> x.turn(0, a, k), "30/1");
        readsFrom("turn 1 of", (x, k, a, b) -> x.turn(1, a, k), "-30/1");
        readsFrom("turn 2 of", (x, k, a, b) -> x.turn(2, a, k), "3/0");
        readsFrom("move 0 of", (x, k, a, b) -> x.move(0, a, k, 2), "30/-1");
        readsFrom("move 1 of", (x, k, a, b) -> x.move(1, a, k, 2), "300/0");
        readsFrom("power of", (x, k, a, b) -> x.power(a, k, 2), "900/2");
        partReadsFrom("part of", (x, k, a, b) -> x.part(a, (k + 3) % 6, k, b), "1/0", "10/1");
        partReadsFrom("part by", (x, k, a, b) -> x.part(a, (k + 3) % 6, b, k), "0/0", "20/1");
        for (int no : NO_REGISTERS) {
            notKept("part of " + no, x -> x.part(1, 3, no, 2), REFUSED, twenties());
            notKept("part by " + no, x -> x.part(1, 3, 2, no), REFUSED, twenties());
        }
    }

    private static String[] twentiesAndAThirty(int k) {
        String[] state = twenties();
        state[k] = "30/1";
        return state;
    }

    private static void readsFrom(String name, At call, String want) {
        for (int n = 0; n < REGISTERS; n++) {
            int k = n;
            int out = (k + 1) % 6;
            keptIn(out, name + " " + k, x -> call.on(x, k, out, (k + 2) % 6), want, twentiesAndAThirty(k));
        }
        for (int no : NO_REGISTERS) {
            notKept(name + " " + no, x -> call.on(x, no, 1, 2), REFUSED, twenties());
        }
    }

    private static void partReadsFrom(String name, At call, String q, String r) {
        for (int n = 0; n < REGISTERS; n++) {
            int k = n;
            String[] behind = twentiesAndAThirty(k);
            behind[(k + 1) % 6] = q;
            behind[(k + 3) % 6] = r;
            leaves(name + " " + k, x -> call.on(x, k, (k + 1) % 6, (k + 2) % 6), 1, behind, twentiesAndAThirty(k));
        }
    }

    /** "What would have a precision above 190, .. is not kept: FULL, and nothing is changed." */
    private static void precisionAbove190() {
        String most = nines(190) + "/0";
        Call sum = x -> x.reckon(0, OUT, 0, 1);
        kept("sum, 190 digits", sum, most, nines(189) + "8/0", "1/0");
        notKept("sum, 191 digits", sum, FULL, most, "1/0");
        notKept("sum, 191 digits below 0", sum, FULL, "-" + most, "-1/0");
        Call difference = x -> x.reckon(1, OUT, 0, 1);
        kept("difference, 190 digits", difference, "-" + most, "-" + nines(189) + "8/0", "1/0");
        notKept("difference, 191 digits", difference, FULL, "-" + most, "1/0");
        Call product = x -> x.reckon(2, OUT, 0, 1);
        kept("product, 190 digits", product, ten(189) + "/0", ten(94) + "/0", ten(95) + "/0");
        notKept("product, 191 digits", product, FULL, ten(95) + "/0", ten(95) + "/0");
        Call tenfold = x -> x.divide(OUT, 0, 1, 1, 7);
        kept("quotient, 190 digits", tenfold, nines(189) + "0/1", nines(189) + "/0", "1/0");
        notKept("quotient, 191 digits", tenfold, FULL, most, "1/0");
        Call scaled = x -> x.scale(OUT, 0, 1, 7);
        kept("scale, 190 digits", scaled, nines(189) + "0/1", nines(189) + "/0");
        notKept("scale, 191 digits", scaled, FULL, most);
        Call moved = x -> x.move(1, OUT, 0, 1);
        kept("move, 190 digits", moved, nines(189) + "0/0", nines(189) + "/0");
        notKept("move, 191 digits", moved, FULL, most);
        keptIn(0, "push, 190 digits", x -> x.push(0, 0), nines(172) + zeros(18) + "/0", nines(172) + "/0");
        notKept("push, 191 digits", x -> x.push(0, 0), FULL, nines(173) + "/0");
        String power = new BigInteger(nines(5)).pow(38) + "/0";
        kept("power, 190 digits", x -> x.power(OUT, 0, 38), power, nines(5) + "/0");
        notKept("power, 191 digits", x -> x.power(OUT, 0, 2), FULL, ten(95) + "/0");
        precisionAbove190OfAPart();
    }

    private static void precisionAbove190OfAPart() {
        String[] behind = state(nines(189) + "/0", "1/1");
        behind[4] = nines(189) + "0/0";
        behind[OUT] = "0/1";
        leaves("part, 190 digits", x -> x.part(4, OUT, 0, 1), 190, behind, nines(189) + "/0", "1/1");
        notKept("part, 191 digits", x -> x.part(4, OUT, 0, 1), FULL, nines(190) + "/0", "1/1");
        notKept("part, 191 digits over its own operands", x -> x.part(0, 1, 0, 1), FULL, nines(190) + "/0", "1/1");
        notKept("part, 191 digits over them the other way", x -> x.part(1, 0, 0, 1), FULL, nines(190) + "/0", "1/1");
    }

    /** "REFUSED for a register that there is not, .. first": before whatever else would be answered. */
    private static void refusedFirst() {
        String most = nines(190) + "/6";
        for (int no : NO_REGISTERS) {
            notKept("FULL load to " + no, x -> x.load(no, 1, 7), REFUSED);
            notKept("FULL sum to " + no, x -> x.reckon(0, no, 0, 0), REFUSED, most);
            notKept("FULL product to " + no, x -> x.reckon(2, no, 0, 0), REFUSED, most);
            notKept("NONE divide to " + no, x -> x.divide(no, 0, 1, 0, 7), REFUSED, "7/0", "0/0");
            notKept("NONE divide of " + no, x -> x.divide(OUT, no, 1, 0, 7), REFUSED, "7/0", "0/0");
            notKept("FULL divide to " + no, x -> x.divide(no, 0, 1, 7, 7), REFUSED, "7/0", "3/0");
            notKept("INEXACT divide to " + no, x -> x.divide(no, 0, 1, 0, 7), REFUSED, "7/0", "3/0");
            notKept("NONE part to q " + no, x -> x.part(no, 2, 0, 1), REFUSED, "7/0", "0/0");
            notKept("NONE part to r " + no, x -> x.part(2, no, 0, 1), REFUSED, "7/0", "0/0");
            notKept("NONE part of " + no, x -> x.part(2, 3, no, 1), REFUSED, "7/0", "0/0");
            notKept("FULL part to r " + no, x -> x.part(2, no, 0, 1), REFUSED, nines(190) + "/0", "1/1");
            notKept("FULL scale to " + no, x -> x.scale(no, 0, 7, 7), REFUSED, "25/1");
            notKept("FULL scale of " + no, x -> x.scale(OUT, no, 7, 7), REFUSED, "25/1");
            notKept("INEXACT scale to " + no, x -> x.scale(no, 0, 0, 7), REFUSED, "25/1");
            notKept("INEXACT round to " + no, x -> x.round(no, 0, 1, 7), REFUSED, "25/1");
            notKept("FULL round to " + no, x -> x.round(no, 0, 1, 1), REFUSED, "25/-6");
            notKept("FULL turn to " + no, x -> x.turn(2, no, 0), REFUSED, "10/-6");
            notKept("FULL move to " + no, x -> x.move(0, no, 0, 1), REFUSED, "10/-6");
            notKept("FULL power to " + no, x -> x.power(no, 0, 2), REFUSED, most);
        }
    }

    /** "REFUSED for .. another way, first." The ways 0 to 7 are there. */
    private static void refusedFirstForAnotherWay() {
        for (int n = 0; n <= 7; n++) {
            int way = n;
            kept("divide in way " + way, x -> x.divide(OUT, 0, 1, 0, way), "3/0", "6/0", "2/0");
            kept("scale in way " + way, x -> x.scale(OUT, 0, 0, way), "3/0", "30/1");
            kept("round in way " + way, x -> x.round(OUT, 0, 1, way), "3/0", "30/1");
        }
        for (int no : NO_WAYS) {
            notKept("divide in way " + no, x -> x.divide(OUT, 0, 1, 0, no), REFUSED, "6/0", "2/0");
            notKept("NONE divide in way " + no, x -> x.divide(OUT, 0, 1, 0, no), REFUSED, "6/0", "0/0");
            notKept("FULL divide in way " + no, x -> x.divide(OUT, 0, 1, 7, no), REFUSED, "6/0", "2/0");
            notKept("long divide in way " + no, x -> x.divide(OUT, 0, 1, 6, no), REFUSED, nines(190) + "/0", "1/0");
            notKept("scale in way " + no, x -> x.scale(OUT, 0, 0, no), REFUSED, "25/1");
            notKept("exact scale in way " + no, x -> x.scale(OUT, 0, 2, no), REFUSED, "25/1");
            notKept("FULL scale in way " + no, x -> x.scale(OUT, 0, 7, no), REFUSED, "25/1");
            notKept("round in way " + no, x -> x.round(OUT, 0, 1, no), REFUSED, "25/1");
            notKept("round of what is short in way " + no, x -> x.round(OUT, 0, 2, no), REFUSED, "25/1");
            notKept("FULL round in way " + no, x -> x.round(OUT, 0, 1, no), REFUSED, "25/-6");
        }
    }

    /** The ways 0 to 6 below, at and above a half, between an even and an odd neighbour. */
    private static void waysAtAHalf() {
        int[][] rows = {
            {21, 3, 2, 3, 2, 2, 2, 2}, {24, 3, 2, 3, 2, 2, 2, 2}, {25, 3, 2, 3, 2, 3, 2, 2},
            {26, 3, 2, 3, 2, 3, 3, 3}, {29, 3, 2, 3, 2, 3, 3, 3}, {30, 3, 3, 3, 3, 3, 3, 3},
            {34, 4, 3, 4, 3, 3, 3, 3}, {35, 4, 3, 4, 3, 4, 3, 4}, {36, 4, 3, 4, 3, 4, 4, 4},
            {-21, -3, -2, -2, -3, -2, -2, -2}, {-24, -3, -2, -2, -3, -2, -2, -2}, {-25, -3, -2, -2, -3, -3, -2, -2},
            {-26, -3, -2, -2, -3, -3, -3, -3}, {-29, -3, -2, -2, -3, -3, -3, -3}, {-30, -3, -3, -3, -3, -3, -3, -3},
            {-34, -4, -3, -3, -4, -3, -3, -3}, {-35, -4, -3, -3, -4, -4, -3, -4}, {-36, -4, -3, -3, -4, -4, -4, -4},
        };
        for (int[] row : rows) {
            for (int way = 0; way < 7; way++) {
                roundsThreeTimes(row[0] + "/1", 1, 0, way, row[way + 1] + "/0");
            }
        }
        int[][] belowOne = {
            {4, 1, 0, 1, 0, 0, 0, 0}, {5, 1, 0, 1, 0, 1, 0, 0}, {6, 1, 0, 1, 0, 1, 1, 1},
            {-4, -1, 0, 0, -1, 0, 0, 0}, {-5, -1, 0, 0, -1, -1, 0, 0}, {-6, -1, 0, 0, -1, -1, -1, -1},
        };
        for (int[] row : belowOne) {
            for (int way = 0; way < 7; way++) {
                roundsTwice(row[0] + "/1", 0, way, row[way + 1] + "/0");
            }
        }
    }

    private static void roundsThreeTimes(String i, int precision, int scale, int way, String want) {
        roundsTwice(i, scale, way, want);
        kept("round " + i + " in way " + way, x -> x.round(OUT, 0, precision, way), want, i);
    }

    private static void roundsTwice(String i, int scale, int way, String want) {
        kept("scale " + i + " in way " + way, x -> x.scale(OUT, 0, scale, way), want, i);
        kept("divide " + i + " in way " + way, x -> x.divide(OUT, 0, 1, scale, way), want, i, "1/0");
        String other = i.startsWith("-") ? i.substring(1) : "-" + i;
        kept("divide " + other + " by -1 in way " + way, x -> x.divide(OUT, 0, 1, scale, way), want, other, "-1/0");
    }

    /** A half is one only if all that is cut off has no more than it, twelve digits and all. */
    private static void waysFarBehindTheLastDigit() {
        String front = nines(177);
        String[] even = {"3", "2", "3", "2", "3", "2", "2"};
        String[] odd = {"4", "3", "4", "3", "4", "3", "4"};
        String[] below = {"3", "2", "3", "2", "2", "2", "2"};
        String[] above = {"3", "2", "3", "2", "3", "3", "3"};
        for (int way = 0; way < 7; way++) {
            roundsThreeTimes(front + "2" + "5" + zeros(11) + "/6", 178, -6, way, front + even[way] + "/-6");
            roundsThreeTimes(front + "3" + "5" + zeros(11) + "/6", 178, -6, way, front + odd[way] + "/-6");
            roundsThreeTimes(front + "2" + "4" + nines(11) + "/6", 178, -6, way, front + below[way] + "/-6");
            roundsThreeTimes(front + "2" + "5" + zeros(10) + "1/6", 178, -6, way, front + above[way] + "/-6");
        }
        quotientsAtAHalf();
    }

    /** Halves that come from the divisor alone: 5 / 2, 7 / 2, and a little less and more. */
    private static void quotientsAtAHalf() {
        String[] even = {"3", "2", "3", "2", "3", "2", "2"};
        String[] odd = {"4", "3", "4", "3", "4", "3", "4"};
        String[] below = {"3", "2", "3", "2", "2", "2", "2"};
        String[] above = {"3", "2", "3", "2", "3", "3", "3"};
        for (int n = 0; n < 7; n++) {
            int way = n;
            Call divide = x -> x.divide(OUT, 0, 1, 0, way);
            kept("5 / 2, way " + way, divide, even[way] + "/0", "5/0", "2/0");
            kept("7 / 2, way " + way, divide, odd[way] + "/0", "7/0", "2/0");
            kept("5 / 2.000001, way " + way, divide, below[way] + "/0", "5/0", "2000001/6");
            kept("5 / 1.999999, way " + way, divide, above[way] + "/0", "5/0", "1999999/6");
        }
    }

    /** "7: not at all: INEXACT, if it would have to be, and nothing is changed." */
    private static void wayNotAtAll() {
        for (String digits : new String[] {"201", "249", "250", "251", "299", "-201", "-250", "-299"}) {
            notKept("scale " + digits, x -> x.scale(OUT, 0, 0, 7), INEXACT, digits + "/2");
            notKept("divide " + digits, x -> x.divide(OUT, 0, 1, 0, 7), INEXACT, digits + "/0", "100/0");
            notKept("round " + digits, x -> x.round(OUT, 0, 1, 7), INEXACT, digits + "/2");
            notKept("scale itself " + digits, x -> x.scale(0, 0, 0, 7), INEXACT, digits + "/2");
            notKept("round itself " + digits, x -> x.round(0, 0, 1, 7), INEXACT, digits + "/2");
        }
        for (String sign : new String[] {"", "-"}) {
            kept("scale 2.00", x -> x.scale(OUT, 0, 0, 7), sign + "2/0", sign + "200/2");
            kept("divide 200 by 100", x -> x.divide(OUT, 0, 1, 0, 7), sign + "2/0", sign + "200/0", "100/0");
            kept("round 2.00", x -> x.round(OUT, 0, 1, 7), sign + "2/0", sign + "200/2");
            kept("scale 2.01 to more", x -> x.scale(OUT, 0, 3, 7), sign + "2010/3", sign + "201/2");
            kept("round 2.01 to as much", x -> x.round(OUT, 0, 3, 7), sign + "201/2", sign + "201/2");
        }
        kept("scale 0.000000", x -> x.scale(OUT, 0, -6, 7), "0/-6", "0/6");
    }

    /** "An object is used for at most 512 calls": all of them answer as they should, the last one too. */
    private static void all512Calls() {
        DecimalRegisters x = new DecimalRegisters();
        Model model = new Model();
        int calls = 0;
        for (; calls < 10; calls++) {
            long v = 999999999999999999L - calls;
            CHECK.due("push, call " + (calls + 1), x.push(0, v), model.push(0, v));
        }
        for (; calls < CALLS - 8; calls += 7) {
            int n = calls;
            CHECK.due("load, call " + (n + 1), x.load(1, n, n % 7), model.load(1, n, n % 7));
            CHECK.due("divide, call " + (n + 2), x.divide(2, 0, 1, -3, n % 7), model.divide(2, 0, 1, -3, n % 7));
            CHECK.due("reckon, call " + (n + 3), x.reckon(n % 5, 3, 2, 1), model.reckon(n % 5, 3, 2, 1));
            CHECK.due("part, call " + (n + 4), x.part(4, 5, 0, 1), model.part(4, 5, 0, 1));
            CHECK.due("power, call " + (n + 5), x.power(5, 5, n % 41), model.power(5, 5, n % 41));
            CHECK.due("whole, call " + (n + 6), x.whole(2), model.whole(2));
            CHECK.due("push, call " + (n + 7), x.push(5, n), model.push(5, n));
        }
        for (; calls < CALLS - 1; calls++) {
            CHECK.due("compare, call " + (calls + 1), x.compare(2, 4), model.compare(2, 4));
        }
        CHECK.due("write, call 512", x.write(2), model.write(2));
    }

    /** What they answer is free, but none may throw. */
    private static void callsBehindTheLast() {
        DecimalRegisters x = with(nines(190) + "/-6", nines(190) + "/6", "-1/6");
        for (int n = 0; n < 3 * CALLS; n++) {
            x.divide(3, 0, 2, 6, n % 9);
            x.part(3, 4, 0, 2);
            x.power(4, 2, n % 42);
            x.move(1, 4, 0, n % 14);
            x.push(4, Long.MIN_VALUE + n);
            x.reckon(n % 6, 5, 0, 1);
            x.octet(x.write(0) - 1);
        }
    }
}
