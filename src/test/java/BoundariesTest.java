import java.math.BigInteger;

/**
 * The sentences of the promises 2 to 11, the calls that change a register, that name a boundary:
 * each has a test of its own, on both sides of the boundary, under the sentence's own words.
 */
public final class BoundariesTest extends Bench {
    private static final long TEN_18 = 1_000_000_000_000_000_000L;
    private static final String MOST = nines(190);

    public static void main(String[] args) {
        loadOfAnyLong();
        loadFull();
        pushTakesTheLowest18Digits();
        pushLeavesOutTheSignOfV();
        pushKeepsTheSign();
        pushKeepsTheScale();
        pushFull();
        reckonOfTheSame();
        reckonRefused();
        reckonFull();
        divideNone();
        divideFullForAScale();
        divideInexact();
        divideFull();
        partRefusedForOneRegister();
        partNone();
        partFull();
        scaleWith0sBehind();
        scaleFullForAScale();
        scaleInexact();
        scaleFull();
        roundIfItHasMore();
        roundWithACarry();
        roundRefusedBelow1();
        roundRefusedFarBelow();
        roundInexactThenFull();
        turnWithNo0sAtTheEnd();
        turnOf0();
        turnRefused();
        turnFull();
        moveFrom12BelowTo12();
        moveBelowScale0();
        moveRefused();
        moveFull();
        powerFrom0To40();
        powerRefused();
        powerFullByNTimesThePrecision();
        powerFullAsEver();
        CHECK.end("BoundariesTest");
    }

    private static void loaded(long v, int scale) {
        String[] behind = state();
        behind[OUT] = v + "/" + scale;
        leaves("load of " + v + ", " + scale, x -> x.load(OUT, v, scale), 0, behind);
    }

    /** 2: "Register k becomes a decimal of the digits v and a scale: 0." */
    private static void loadOfAnyLong() {
        long[] longs = {
            Long.MIN_VALUE, Long.MIN_VALUE + 1, -TEN_18, -1, 0, 1, 9, 10, 999999, 1000000, 999999999999L,
            1000000000000L, TEN_18 - 1, TEN_18, Long.MAX_VALUE - 1, Long.MAX_VALUE,
        };
        for (long v : longs) {
            for (int scale : new int[] {-6, 0, 6}) {
                loaded(v, scale);
            }
        }
    }

    /** 2: "FULL.", beyond both ends of the scale. */
    private static void loadFull() {
        for (long v : new long[] {Long.MIN_VALUE, -1, 0, 1, Long.MAX_VALUE}) {
            for (int scale : NO_SCALES) {
                notKept("load of " + v + ", " + scale, x -> x.load(OUT, v, scale), FULL);
            }
        }
    }

    private static void pushed(String before, long v, String want) {
        keptIn(0, "push of " + v + " on " + before, x -> x.push(0, v), want, before);
    }

    /** 3: "the lowest 18 digits of v": a 19th is left out, and 0s stand for those that are missing. */
    private static void pushTakesTheLowest18Digits() {
        pushed("1/0", 0, ten(18) + "/0");
        pushed("1/0", 1, "1" + zeros(17) + "1/0");
        pushed("1/0", TEN_18 / 10 - 1, "10" + nines(17) + "/0");
        pushed("1/0", TEN_18 - 1, "1" + nines(18) + "/0");
        pushed("1/0", TEN_18, "1" + zeros(18) + "/0");
        pushed("1/0", TEN_18 + 1, "1" + zeros(17) + "1/0");
        pushed("1/0", 9 * TEN_18 + 123456789, "1" + zeros(9) + "123456789/0");
        pushed("1/0", Long.MAX_VALUE, "1223372036854775807/0");
        pushed("0/0", TEN_18 - 1, nines(18) + "/0");
        pushed("0/0", TEN_18, "0/0");
        pushed("0/0", Long.MAX_VALUE, "223372036854775807/0");
    }

    /** 3: "(without its sign)". */
    private static void pushLeavesOutTheSignOfV() {
        pushed("1/0", -1, "1" + zeros(17) + "1/0");
        pushed("-1/0", -1, "-1" + zeros(17) + "1/0");
        pushed("1/0", -TEN_18 + 1, "1" + nines(18) + "/0");
        pushed("1/0", -TEN_18, ten(18) + "/0");
        pushed("1/0", Long.MIN_VALUE, "1223372036854775808/0");
        pushed("-1/0", Long.MIN_VALUE, "-1223372036854775808/0");
        pushed("0/0", Long.MIN_VALUE, "223372036854775808/0");
    }

    /** 3: "its sign (of 0: none) stays", also of a 0 that comes from a minus. */
    private static void pushKeepsTheSign() {
        pushed("5/0", 5, "5" + zeros(17) + "5/0");
        pushed("-5/0", 5, "-5" + zeros(17) + "5/0");
        pushed("-5/0", 0, "-5" + zeros(18) + "/0");
        pushed("0/0", 5, "5/0");
        pushed("0/0", -5, "5/0");
        pushed("0/0", 0, "0/0");
        pushedOnAZeroOf("other sign", x -> x.turn(1, 0, 0), "0/0");
        pushedOnAZeroOf("scale", x -> x.scale(0, 0, 0, 1), "-4/1");
        pushedOnAZeroOf("divide", x -> x.divide(0, 0, 1, 0, 1), "-4/0", "5/0");
        pushedOnAZeroOf("part", x -> x.part(0, 2, 0, 1), "-4/0", "5/0");
        pushedOnAZeroOf("rest of a part", x -> x.part(2, 0, 0, 1), "-4/0", "2/0");
        pushedOnAZeroOf("product", x -> x.reckon(2, 0, 0, 1), "-4/0", "0/0");
        pushedOnAZeroOf("sum", x -> x.reckon(0, 0, 0, 1), "-4/0", "4/0");
        pushedOnAZeroOf("difference", x -> x.reckon(1, 0, 0, 0), "-4/0");
    }

    private static void pushedOnAZeroOf(String name, Call zero, String... decimals) {
        DecimalRegisters x = with(decimals);
        CHECK.due(name + " to 0", zero.on(x), 1);
        CHECK.due(name + ": push", x.push(0, -9), 1);
        CHECK.holds(name + ": push", x, 0, "9/0");
    }

    /** 3: "its scale, too". */
    private static void pushKeepsTheScale() {
        for (int scale = -6; scale <= 6; scale++) {
            pushed("7/" + scale, 8, "7" + zeros(17) + "8/" + scale);
            pushed("0/" + scale, 8, "8/" + scale);
            pushed("0/" + scale, 0, "0/" + scale);
        }
    }

    /** 3: "FULL.": 172 digits and 18 more are 190. */
    private static void pushFull() {
        for (String sign : new String[] {"", "-"}) {
            pushed(sign + nines(172) + "/6", TEN_18 - 1, sign + MOST + "/6");
            pushed(sign + ten(171) + "/-6", 0, sign + ten(189) + "/-6");
            notKept("push on 173 digits", x -> x.push(0, 1), FULL, sign + nines(173) + "/6");
            notKept("push on 10^172", x -> x.push(0, 0), FULL, sign + ten(172) + "/-6");
            notKept("push on 190 digits", x -> x.push(0, TEN_18 - 1), FULL, sign + MOST + "/6");
        }
    }

    private static void taken(String i, String j, String greater, String less) {
        kept("the greater of " + i + ", " + j, x -> x.reckon(3, OUT, 0, 1), greater, i, j);
        kept("the less of " + i + ", " + j, x -> x.reckon(4, OUT, 0, 1), less, i, j);
    }

    /** 4: "(i if they mean the same)", "the less, likewise". */
    private static void reckonOfTheSame() {
        taken("20/1", "2/0", "20/1", "20/1");
        taken("2/0", "20/1", "2/0", "2/0");
        taken("-20/1", "-2/0", "-20/1", "-20/1");
        taken("-2/0", "-20/1", "-2/0", "-2/0");
        taken("0/6", "0/-6", "0/6", "0/6");
        taken("0/-6", "0/6", "0/-6", "0/-6");
        taken("1/-6", ten(12) + "/6", "1/-6", "1/-6");
        taken("20/1", "21/1", "21/1", "20/1");
        taken("21/1", "20/1", "21/1", "20/1");
        taken("1999999/6", "2/0", "2/0", "1999999/6");
        taken("2000001/6", "2/0", "2000001/6", "2/0");
        taken("-2000001/6", "-2/0", "-2/0", "-2000001/6");
        taken("-1/6", "0/0", "0/0", "-1/6");
        taken("1/6", "0/0", "1/6", "0/0");
    }

    /** 4: "REFUSED for another op", before FULL. */
    private static void reckonRefused() {
        kept("reckon 0", x -> x.reckon(0, OUT, 0, 1), "9/0", "4/0", "5/0");
        kept("reckon 4", x -> x.reckon(4, OUT, 0, 1), "4/0", "4/0", "5/0");
        for (int op : new int[] {-1, 5, 6, Integer.MIN_VALUE, Integer.MAX_VALUE}) {
            notKept("reckon " + op, x -> x.reckon(op, OUT, 0, 1), REFUSED, "4/0", "5/0");
            notKept("reckon " + op + " of the longest", x -> x.reckon(op, OUT, 0, 0), REFUSED, MOST + "/6");
        }
    }

    /** 4: "FULL", by the digits, by the 0s of the greater scale, and by the sum of the scales. */
    private static void reckonFull() {
        Call sum = x -> x.reckon(0, OUT, 0, 1);
        Call difference = x -> x.reckon(1, OUT, 0, 1);
        Call product = x -> x.reckon(2, OUT, 0, 1);
        kept("sum with 0.0, 190 digits", sum, nines(189) + "0/1", nines(189) + "/0", "0/1");
        notKept("sum with 0.0, 191 digits", sum, FULL, MOST + "/0", "0/1");
        kept("0.0 less 189 digits", difference, "-" + nines(189) + "0/1", "0/1", nines(189) + "/0");
        notKept("0.0 less 190 digits", difference, FULL, "0/1", MOST + "/0");
        kept("191 digits less as many", difference, "1/1", ten(189) + "/0", MOST + "/1");
        notKept("the longest and the shortest", sum, FULL, MOST + "/-6", "1/6");
        kept("178 digits and the shortest", sum, nines(178) + zeros(11) + "1/6", nines(178) + "/-6", "1/6");
        notKept("179 digits and the shortest", sum, FULL, nines(179) + "/-6", "1/6");
        String square = nines(94) + "8" + zeros(94) + "1/0";
        kept("product, 95 digits twice", product, square, nines(95) + "/0", nines(95) + "/0");
        notKept("product, 95 and 96 digits", product, FULL, nines(95) + "/0", nines(96) + "/0");
        kept("product, 95 and 96 digits in 190", product, ten(189) + "/0", ten(94) + "/0", ten(95) + "/0");
        notKept("product, the longest", product, FULL, "-" + MOST + "/0", MOST + "/0");
        kept("product of 0, scale 6", product, "0/6", "0/1", "-7/5");
        notKept("product of 0, scale 7", product, FULL, "0/2", "-7/5");
        notKept("product, scale 12", product, FULL, "1/6", "1/6");
        notKept("product, scale -12", product, FULL, "1/-6", "1/-6");
        notKept("product over its own factor", x -> x.reckon(2, 0, 0, 0), FULL, ten(95) + "/0");
    }

    /** 5: "NONE if j is 0", with any scale, before what a scale or a way would answer. */
    private static void divideNone() {
        for (String zero : new String[] {"0/0", "0/6", "0/-6"}) {
            for (int way = 0; way <= 7; way++) {
                int asked = way;
                notKept("7 / " + zero, x -> x.divide(OUT, 0, 1, 0, asked), NONE, "7/0", zero);
            }
            notKept("0 / " + zero, x -> x.divide(OUT, 1, 1, 0, 0), NONE, "7/0", zero);
            for (int scale : NO_SCALES) {
                notKept("7 / " + zero + ", scale " + scale, x -> x.divide(OUT, 0, 1, scale, 7), NONE, "7/0", zero);
            }
        }
        kept("7 / 0.000001", x -> x.divide(OUT, 0, 1, 0, 7), "7000000/0", "7/0", "1/6");
        kept("0 / 0.000001", x -> x.divide(OUT, 0, 1, 0, 7), "0/0", "0/0", "1/6");
    }

    /** 5: "then FULL for a scale out of range", before INEXACT. */
    private static void divideFullForAScale() {
        for (int scale : NO_SCALES) {
            notKept("7 / 3, scale " + scale, x -> x.divide(OUT, 0, 1, scale, 7), FULL, "7/0", "3/0");
            notKept("0 / 3, scale " + scale, x -> x.divide(OUT, 0, 1, scale, 0), FULL, "0/0", "3/0");
        }
        kept("7 / 2, scale 6", x -> x.divide(OUT, 0, 1, 6, 7), "3500000/6", "7/0", "2/0");
        kept("7 / 3, scale -6", x -> x.divide(OUT, 0, 1, -6, 0), "1/-6", "7/0", "3/0");
    }

    /** 5: "INEXACT", before FULL for the digits. */
    private static void divideInexact() {
        Call divide = x -> x.divide(OUT, 0, 1, 2, 7);
        kept("1 / 4 to scale 2", divide, "25/2", "1/0", "4/0");
        notKept("1 / 8 to scale 2", divide, INEXACT, "1/0", "8/0");
        notKept("1 / 3 to scale 2", divide, INEXACT, "1/0", "3/0");
        notKept("-1 / 3 to scale 2", divide, INEXACT, "-1/0", "3/0");
        notKept("so little that it is cut to 0", divide, INEXACT, "1/6", MOST + "/-6");
        notKept("inexact and too long", divide, INEXACT, MOST + "/0", "7/0");
        notKept("inexact over its own operand", x -> x.divide(0, 0, 1, 2, 7), INEXACT, "1/0", "3/0");
        notKept("inexact over its own divisor", x -> x.divide(1, 0, 1, 2, 7), INEXACT, "1/0", "3/0");
    }

    /** 5: "FULL.", by the digits. */
    private static void divideFull() {
        Call divide = x -> x.divide(OUT, 0, 1, 0, 7);
        kept("190 digits", divide, MOST + "/0", MOST + "/0", "1/0");
        kept("190 digits by the scale of j", divide, nines(189) + "0/0", nines(189) + "/0", "1/1");
        notKept("191 digits by the scale of j", divide, FULL, MOST + "/0", "1/1");
        kept("190 digits by the scale of i", divide, nines(189) + "0/0", nines(189) + "/-1", "1/0");
        notKept("191 digits by the scale of i", divide, FULL, MOST + "/-1", "1/0");
        notKept("191 digits by the scale", x -> x.divide(OUT, 0, 1, 1, 7), FULL, MOST + "/0", "1/0");
        notKept("208 digits", x -> x.divide(OUT, 0, 1, 6, 7), FULL, "-" + MOST + "/-6", "1/6");
        for (int n = 0; n < 7; n++) {
            int way = n;
            notKept("196 digits in way " + way, x -> x.divide(OUT, 0, 1, 6, way), FULL, MOST + "/0", "7/0");
        }
        kept("a carry to 190 digits", x -> x.divide(OUT, 0, 1, 0, 0), ten(189) + "/0", MOST + "/0", "10/0");
    }

    /** 6: "REFUSED, too, if q and r are the same", before NONE and FULL. */
    private static void partRefusedForOneRegister() {
        for (int n = 0; n < REGISTERS; n++) {
            int k = n;
            notKept("part into " + k + " twice", x -> x.part(k, k, 0, 1), REFUSED, "17/0", "5/0");
            notKept("part by 0 into " + k + " twice", x -> x.part(k, k, 0, 1), REFUSED, "17/0", "0/0");
            notKept("too long a part into " + k + " twice", x -> x.part(k, k, 0, 1), REFUSED, MOST + "/0", "1/1");
        }
        for (int q = 0; q < REGISTERS; q++) {
            for (int r = 0; r < REGISTERS; r++) {
                if (q != r) {
                    partedInto(q, r, "17/1", "5/1", "3/0", "2/1");
                    partedInto(q, r, "-17/1", "5/1", "-3/0", "-2/1");
                    partedInto(q, r, "17/1", "-5/1", "-3/0", "2/1");
                    partedInto(q, r, "-17/1", "-5/1", "3/0", "-2/1");
                    partedInto(q, r, "17/-1", "5/2", "3400/0", "0/2");
                    partedInto(q, r, "17/2", "5/-1", "0/0", "17/2");
                }
            }
        }
        leaves("part of one and itself", x -> x.part(0, 1, 0, 0), 1, state("1/0", "0/2"), "-17/2", "5/0");
        leaves("part of one and itself", x -> x.part(1, 0, 0, 0), 1, state("0/2", "1/0"), "-17/2", "5/0");
    }

    /** Registers q and r may be those of i and j. */
    private static void partedInto(int q, int r, String i, String j, String wantQ, String wantR) {
        String[] behind = state(i, j);
        behind[q] = wantQ;
        behind[r] = wantR;
        String name = "part of " + i + ", " + j + " into " + q + " and " + r;
        leaves(name, x -> x.part(q, r, 0, 1), Check.precision(wantQ), behind, i, j);
    }

    /** 6: "NONE if j is 0". */
    private static void partNone() {
        for (String zero : new String[] {"0/0", "0/6", "0/-6"}) {
            notKept("part of 17, " + zero, x -> x.part(4, OUT, 0, 1), NONE, "17/0", zero);
            notKept("part of 17, " + zero + " over themselves", x -> x.part(0, 1, 0, 1), NONE, "17/0", zero);
            notKept("part of " + zero + " and itself", x -> x.part(4, OUT, 1, 1), NONE, "17/0", zero);
        }
        String[] behind = state("0/2", "1/6");
        behind[4] = "0/0";
        behind[OUT] = "0/6";
        leaves("part of 0, 0.000001", x -> x.part(4, OUT, 0, 1), 1, behind, "0/2", "1/6");
    }

    /** 6: "FULL.", by the digits of q; what is left always has room. */
    private static void partFull() {
        partedInto(4, OUT, MOST + "/0", "1/0", MOST + "/0", "0/0");
        partedInto(4, OUT, nines(189) + "/0", "1/1", nines(189) + "0/0", "0/1");
        partedInto(4, OUT, nines(178) + "/-6", "1/6", nines(178) + zeros(12) + "/0", "0/6");
        partedInto(4, OUT, "-" + MOST + "/-6", "-" + MOST + "/-6", "1/0", "0/-6");
        partedInto(4, OUT, "-" + MOST + "/0", ten(189) + "/0", "-9/0", "-" + nines(189) + "/0");
        partedInto(4, OUT, MOST + "/6", MOST + "/-6", "0/0", MOST + "/6");
        partedInto(4, OUT, MOST + "/-6", MOST + "/6", ten(12) + "/0", "0/6");
        partedInto(4, OUT, MOST + "/-6", ten(189) + "/6", "9" + nines(12) + "/0", nines(177) + zeros(12) + "/6");
        notKept("part, 191 digits by j", x -> x.part(4, OUT, 0, 1), FULL, MOST + "/0", "1/1");
        notKept("part, 191 digits by i", x -> x.part(4, OUT, 0, 1), FULL, MOST + "/-1", "1/0");
        notKept("part, 191 digits and a rest", x -> x.part(4, OUT, 0, 1), FULL, "-" + MOST + "/-1", "7/1");
        notKept("part, 202 digits", x -> x.part(4, OUT, 0, 1), FULL, MOST + "/-6", "-1/6");
    }

    private static void scaled(String i, int scale, String want) {
        for (int n = 0; n <= 7; n++) {
            int way = n;
            kept(i + " to scale " + scale + ", way " + way, x -> x.scale(OUT, 0, scale, way), want, i);
        }
    }

    /** 7: "(with 0s behind, if that is more)"; with as much, it stays as it is. */
    private static void scaleWith0sBehind() {
        scaled("-125/2", 2, "-125/2");
        scaled("-125/2", 3, "-1250/3");
        scaled("-125/2", 6, "-1250000/6");
        scaled("125/-6", 6, "125" + zeros(12) + "/6");
        scaled("125/-6", -6, "125/-6");
        scaled("120/2", 1, "12/1");
        scaled("0/-6", 6, "0/6");
        keptIn(0, "-1.25 to scale 3 over itself", x -> x.scale(0, 0, 3, 7), "-1250/3", "-125/2");
        as0sAreAdded();
    }

    /** 4, 7, 10: 0s behind move each digit on, whatever place it stands at, and whatever stands beside it. */
    private static void as0sAreAdded() {
        for (int length = 1; length <= 14; length++) {
            for (int n = 0; n <= 6; n++) {
                int more = n;
                String mixed = "12345678901234".substring(0, length);
                for (String digits : new String[] {ten(length - 1), nines(length), mixed}) {
                    String name = n + " 0s behind " + digits;
                    String want = digits + zeros(n);
                    kept(name, x -> x.scale(OUT, 0, more, 7), want + "/" + n, digits + "/0");
                    kept(name + ", a sum", x -> x.reckon(0, OUT, 0, 1), want + "/" + n, digits + "/0", "0/" + n);
                    kept(name + ", moved", x -> x.move(1, OUT, 0, more), want + "/0", digits + "/0");
                }
            }
        }
    }

    /** 7: "FULL for a scale out of range", before INEXACT. */
    private static void scaleFullForAScale() {
        for (int scale : NO_SCALES) {
            notKept("1.25 to scale " + scale, x -> x.scale(OUT, 0, scale, 7), FULL, "125/2");
            notKept("0 to scale " + scale, x -> x.scale(OUT, 0, scale, 7), FULL, "0/0");
            notKept("1.25 to scale " + scale + " over itself", x -> x.scale(0, 0, scale, 0), FULL, "125/2");
        }
        scaled("1/0", 6, ten(6) + "/6");
        scaled(ten(6) + "/0", -6, "1/-6");
    }

    /** 7: "INEXACT". */
    private static void scaleInexact() {
        notKept("1.25 to scale 1", x -> x.scale(OUT, 0, 1, 7), INEXACT, "125/2");
        notKept("0.000001 to scale 5", x -> x.scale(OUT, 0, 5, 7), INEXACT, "1/6");
        notKept("-0.000001 to scale -6", x -> x.scale(OUT, 0, -6, 7), INEXACT, "-1/6");
        notKept("the longest to scale 5", x -> x.scale(OUT, 0, 5, 7), INEXACT, MOST + "/6");
        kept("1.20 to scale 1", x -> x.scale(OUT, 0, 1, 7), "12/1", "120/2");
        kept("the longest to scale 5, with 0s", x -> x.scale(OUT, 0, 5, 7), ten(188) + "/5", ten(189) + "/6");
    }

    /** 7: "FULL.", by the 0s behind. */
    private static void scaleFull() {
        scaled(nines(189) + "/5", 6, nines(189) + "0/6");
        scaled(MOST + "/6", 6, MOST + "/6");
        scaled(nines(178) + "/-6", 6, nines(178) + zeros(12) + "/6");
        for (int n = 0; n <= 7; n++) {
            int way = n;
            notKept("191 digits in way " + way, x -> x.scale(OUT, 0, 6, way), FULL, MOST + "/5");
            notKept("191 digits from 179 in way " + way, x -> x.scale(OUT, 0, 6, way), FULL, nines(179) + "/-6");
            notKept("202 digits in way " + way, x -> x.scale(OUT, 0, 6, way), FULL, "-" + MOST + "/-6");
        }
        kept("a carry to 190 digits", x -> x.scale(OUT, 0, 5, 0), ten(189) + "/5", MOST + "/6");
    }

    private static void rounded(String i, int precision, int way, String want) {
        kept(i + " to precision " + precision + ", way " + way, x -> x.round(OUT, 0, precision, way), want, i);
    }

    /** 8: "rounded to a precision, if it has more". */
    private static void roundIfItHasMore() {
        for (int way = 0; way <= 7; way++) {
            rounded("-125/2", 3, way, "-125/2");
            rounded("-125/2", 4, way, "-125/2");
            rounded("-125/2", 190, way, "-125/2");
            rounded("-125/2", 191, way, "-125/2");
            rounded("-125/2", Integer.MAX_VALUE, way, "-125/2");
            rounded("0/6", 1, way, "0/6");
            rounded(MOST + "/-6", 190, way, MOST + "/-6");
        }
        rounded("-125/2", 2, 1, "-12/1");
        rounded("-125/2", 1, 1, "-1/0");
        rounded(MOST + "/6", 189, 1, nines(189) + "/5");
    }

    /** 8: "(a carry may make it a digit longer: it is rounded again then)". */
    private static void roundWithACarry() {
        rounded("999/2", 2, 0, "10/0");
        rounded("-999/2", 2, 0, "-10/0");
        rounded("995/2", 2, 4, "10/0");
        rounded("995/2", 2, 5, "99/1");
        rounded("995/2", 2, 6, "10/0");
        rounded("-991/2", 2, 3, "-10/0");
        rounded("-991/2", 2, 2, "-99/1");
        rounded("989/2", 2, 0, "99/1");
        rounded("99/0", 1, 2, "1/-2");
        rounded(nines(7) + "/6", 6, 0, ten(5) + "/4");
        rounded(nines(13) + "/6", 12, 0, ten(11) + "/4");
        rounded(nines(12) + "/6", 1, 0, "1/-6");
        rounded(MOST + "/6", 189, 0, ten(188) + "/4");
        rounded(MOST + "/6", 179, 0, ten(178) + "/-6");
        notKept("a carry to scale -7", x -> x.round(OUT, 0, 178, 0), FULL, MOST + "/6");
        notKept("a short carry to scale -7", x -> x.round(OUT, 0, 1, 0), FULL, "99/-5");
        rounded("99/-4", 1, 0, "1/-6");
        rounded("94/-5", 1, 4, "9/-6");
    }

    /** 8: "REFUSED for a precision below 1". */
    private static void roundRefusedBelow1() {
        for (int precision : new int[] {0, -1, -18, -19, Integer.MIN_VALUE, Integer.MIN_VALUE + 1}) {
            for (String i : new String[] {"0/0", "1/0", "12/-6", "125/2", MOST + "/6"}) {
                notKept(i + " to precision " + precision, x -> x.round(OUT, 0, precision, 7), REFUSED, i);
            }
        }
        rounded("0/0", 1, 7, "0/0");
        rounded("1/0", 1, 7, "1/0");
        rounded("120/2", 1, 1, "1/0");
    }

    /** 8: "or more than 18 below that of register i": with 18 it is looked at, and too far for any scale. */
    private static void roundRefusedFarBelow() {
        for (int n = 0; n <= 7; n++) {
            int way = n;
            notKept("20 digits to 1, way " + way, x -> x.round(OUT, 0, 1, way), REFUSED, ten(19) + "/6");
            notKept("19 digits to 1, way " + way, x -> x.round(OUT, 0, 1, way), FULL, ten(18) + "/6");
            notKept("190 digits to 171, way " + way, x -> x.round(OUT, 0, 171, way), REFUSED, ten(189) + "/6");
            notKept("190 digits to 172, way " + way, x -> x.round(OUT, 0, 172, way), FULL, ten(189) + "/6");
            notKept("190 digits to 1, way " + way, x -> x.round(OUT, 0, 1, way), REFUSED, ten(189) + "/6");
        }
        notKept("20 digits to 1, inexact", x -> x.round(OUT, 0, 1, 7), REFUSED, nines(20) + "/6");
        notKept("19 digits to 1, inexact", x -> x.round(OUT, 0, 1, 7), INEXACT, nines(19) + "/6");
    }

    /** 8: "INEXACT, FULL." */
    private static void roundInexactThenFull() {
        notKept("1.25 to 2 digits", x -> x.round(OUT, 0, 2, 7), INEXACT, "125/2");
        rounded("120/2", 2, 7, "12/1");
        notKept("inexact and too low a scale", x -> x.round(OUT, 0, 1, 7), INEXACT, "12/-6");
        notKept("exact and too low a scale", x -> x.round(OUT, 0, 1, 7), FULL, "10/-6");
        rounded("10/-5", 1, 7, "1/-6");
        for (int n = 0; n < 7; n++) {
            int way = n;
            notKept("too low a scale, way " + way, x -> x.round(OUT, 0, 1, way), FULL, "12/-6");
            notKept("13 digits off, way " + way, x -> x.round(OUT, 0, 17, way), FULL, "3".repeat(30) + "/6");
        }
        rounded("3".repeat(30) + "/6", 18, 1, "3".repeat(18) + "/-6");
        notKept("too low a scale over itself", x -> x.round(0, 0, 1, 0), FULL, "12/-6");
    }

    private static void stripped(String i, String want) {
        kept("turn 2 of " + i, x -> x.turn(2, OUT, 0), want, i);
    }

    /** 9: "with no 0s at its digits' end". */
    private static void turnWithNo0sAtTheEnd() {
        stripped("1/6", "1/6");
        stripped("10/6", "1/5");
        stripped("-10/6", "-1/5");
        stripped("101/2", "101/2");
        stripped("1010/2", "101/1");
        for (int zeros = 0; zeros <= 12; zeros++) {
            stripped("7" + zeros(zeros) + "/6", "7/" + (6 - zeros));
            stripped("-" + nines(190 - zeros) + zeros(zeros) + "/6", "-" + nines(190 - zeros) + "/" + (6 - zeros));
        }
    }

    /** 9: "(of 0: 0 with scale 0)". */
    private static void turnOf0() {
        for (int scale = -6; scale <= 6; scale++) {
            String zero = "0/" + scale;
            stripped(zero, "0/0");
            kept("turn 0 of " + zero, x -> x.turn(0, OUT, 0), zero, zero);
            kept("turn 1 of " + zero, x -> x.turn(1, OUT, 0), zero, zero);
        }
    }

    /** 9: "REFUSED for another op", before FULL. */
    private static void turnRefused() {
        for (int op : new int[] {-1, 3, 4, Integer.MIN_VALUE, Integer.MAX_VALUE}) {
            notKept("turn " + op, x -> x.turn(op, OUT, 0), REFUSED, "-10/0");
            notKept("turn " + op + " of 10 with scale -6", x -> x.turn(op, OUT, 0), REFUSED, "10/-6");
            notKept("turn " + op + " over itself", x -> x.turn(op, 0, 0), REFUSED, "-10/0");
        }
        kept("turn 0", x -> x.turn(0, OUT, 0), "10/0", "-10/0");
        kept("turn 1", x -> x.turn(1, OUT, 0), "10/0", "-10/0");
        kept("turn 2", x -> x.turn(2, OUT, 0), "-1/-1", "-10/0");
    }

    /** 9: "FULL.": 0s taken off may take the scale below -6. */
    private static void turnFull() {
        stripped("10/-5", "1/-6");
        notKept("turn 2 to scale -7", x -> x.turn(2, OUT, 0), FULL, "10/-6");
        notKept("turn 2 to scale -7 over itself", x -> x.turn(2, 0, 0), FULL, "-10/-6");
        notKept("turn 2 from scale 6 to -7", x -> x.turn(2, OUT, 0), FULL, ten(13) + "/6");
        notKept("turn 2 to scale -183", x -> x.turn(2, OUT, 0), FULL, ten(189) + "/6");
        kept("turn 0 of what 0s end", x -> x.turn(0, OUT, 0), "10/-6", "-10/-6");
        kept("turn 1 of what 0s end", x -> x.turn(1, OUT, 0), "10/-6", "-10/-6");
        kept("turn 1 of the longest", x -> x.turn(1, OUT, 0), "-" + MOST + "/-6", MOST + "/-6");
    }

    private static void moved(int op, String i, int n, String want) {
        kept("move " + op + " of " + i + " by " + n, x -> x.move(op, OUT, 0, n), want, i);
    }

    /** 10: "(n -12 to 12)". */
    private static void moveFrom12BelowTo12() {
        for (int n = -12; n <= 12; n++) {
            int from = n < 0 ? -6 : 6;
            moved(0, "-125/" + from, n, "-125/" + (from - n));
            moved(0, "0/" + from, n, "0/" + (from - n));
        }
        moved(1, "-125/6", 12, "-125" + zeros(6) + "/0");
        moved(1, "-125/-6", 12, "-125" + zeros(18) + "/0");
        moved(1, "-125/-6", -12, "-125/6");
        for (int n : new int[] {-13, 13, Integer.MIN_VALUE, Integer.MAX_VALUE}) {
            for (int op = 0; op < 2; op++) {
                int asked = op;
                notKept("move " + op + " by " + n, x -> x.move(asked, OUT, 0, n), REFUSED, "125/6");
                notKept("move " + op + " of scale -6 by " + n, x -> x.move(asked, OUT, 0, n), REFUSED, "125/-6");
                notKept("move " + op + " of 0 by " + n, x -> x.move(asked, OUT, 0, n), REFUSED, "0/0");
            }
        }
    }

    /** 10: "if its scale is below 0 then, with 0s and scale 0". */
    private static void moveBelowScale0() {
        moved(1, "125/2", 1, "125/1");
        moved(1, "125/2", 2, "125/0");
        moved(1, "125/2", 3, "1250/0");
        moved(1, "125/2", 12, "125" + zeros(10) + "/0");
        moved(1, "125/-1", 0, "1250/0");
        moved(1, "125/-1", -1, "125/0");
        moved(1, "125/-1", -2, "125/1");
        moved(1, "125/-6", -5, "1250/0");
        moved(1, "0/0", 1, "0/0");
        moved(1, "0/-6", 12, "0/0");
        moved(1, "0/0", -1, "0/1");
        moved(0, "125/2", 3, "125/-1");
        moved(0, "125/-1", 0, "125/-1");
    }

    /** 10: "REFUSED for another op or n", before FULL. */
    private static void moveRefused() {
        for (int op : new int[] {-1, 2, 3, Integer.MIN_VALUE, Integer.MAX_VALUE}) {
            notKept("move " + op, x -> x.move(op, OUT, 0, 1), REFUSED, "125/2");
            notKept("move " + op + " to scale -7", x -> x.move(op, OUT, 0, 1), REFUSED, "125/-6");
            notKept("move " + op + " by 0", x -> x.move(op, OUT, 0, 0), REFUSED, "125/2");
            notKept("move " + op + " by 13", x -> x.move(op, OUT, 0, 13), REFUSED, "125/2");
            notKept("move " + op + " over itself", x -> x.move(op, 0, 0, 1), REFUSED, "125/2");
        }
    }

    /** 10: "FULL.", by the scale, or by the 0s. */
    private static void moveFull() {
        moved(0, "125/0", 6, "125/-6");
        notKept("move 0 to scale -7", x -> x.move(0, OUT, 0, 7), FULL, "125/0");
        notKept("move 0 of 0 to scale -7", x -> x.move(0, OUT, 0, 7), FULL, "0/0");
        notKept("move 0 to scale -18", x -> x.move(0, OUT, 0, 12), FULL, "125/-6");
        for (int n = 0; n < 2; n++) {
            int op = n;
            moved(op, "125/0", -6, "125/6");
            notKept("move to scale 7", x -> x.move(op, OUT, 0, -7), FULL, "125/0");
            notKept("move of 0 to scale 7", x -> x.move(op, OUT, 0, -7), FULL, "0/0");
            notKept("move to scale 18", x -> x.move(op, OUT, 0, -12), FULL, "125/6");
        }
        moved(1, nines(178) + "/0", 12, nines(178) + zeros(12) + "/0");
        notKept("move 1 to 191 digits", x -> x.move(1, OUT, 0, 12), FULL, nines(179) + "/0");
        moved(1, MOST + "/6", 6, MOST + "/0");
        notKept("move 1 of the longest", x -> x.move(1, OUT, 0, 7), FULL, MOST + "/6");
        moved(1, nines(184) + "/-6", 0, nines(184) + zeros(6) + "/0");
        notKept("move 1 by 0 to 191 digits", x -> x.move(1, OUT, 0, 0), FULL, nines(185) + "/-6");
        notKept("move 1 over itself", x -> x.move(1, 0, 0, 1), FULL, MOST + "/0");
    }

    private static void raised(String i, int n, String want) {
        kept(i + " to the power " + n, x -> x.power(OUT, 0, n), want, i);
    }

    /** 11: "to the n-th power (0 to 40)". */
    private static void powerFrom0To40() {
        for (int n = 0; n <= 40; n++) {
            raised("-2/0", n, BigInteger.valueOf(-2).pow(n) + "/0");
            raised("0/0", n, n == 0 ? "1/0" : "0/0");
            raised("-9999/0", n, BigInteger.valueOf(-9999).pow(n) + "/0");
        }
        raised("0/6", 0, "1/0");
        raised("0/6", 1, "0/6");
        raised("-" + MOST + "/-6", 0, "1/0");
        raised("-" + MOST + "/-6", 1, "-" + MOST + "/-6");
    }

    /** 11: "REFUSED for another n", before FULL. */
    private static void powerRefused() {
        for (int n : new int[] {-1, 41, Integer.MIN_VALUE, Integer.MAX_VALUE}) {
            notKept("1 to the power " + n, x -> x.power(OUT, 0, n), REFUSED, "1/0");
            notKept("0 to the power " + n, x -> x.power(OUT, 0, n), REFUSED, "0/0");
            notKept("0.1 to the power " + n, x -> x.power(OUT, 0, n), REFUSED, "1/1");
            notKept("the longest to the power " + n, x -> x.power(OUT, 0, n), REFUSED, MOST + "/0");
        }
    }

    /** 11: "FULL if n times its precision is above 190", however short the power is. */
    private static void powerFullByNTimesThePrecision() {
        raised(MOST + "/0", 1, MOST + "/0");
        for (int n = 2; n <= 40; n++) {
            int power = n;
            int most = 190 / n;
            raised(ten(most - 1) + "/0", n, ten((most - 1) * n) + "/0");
            notKept("10^" + most + " to the power " + n, x -> x.power(OUT, 0, power), FULL, ten(most) + "/0");
        }
        raised("10000/0", 38, ten(152) + "/0");
        notKept("10000 to the power 39", x -> x.power(OUT, 0, 39), FULL, "10000/0");
        raised("-" + nines(95) + "/0", 2, nines(94) + "8" + zeros(94) + "1/0");
        notKept("96 digits squared over itself", x -> x.power(0, 0, 2), FULL, ten(95) + "/0");
    }

    /** 11: "or as ever.": by n times the scale. */
    private static void powerFullAsEver() {
        for (int scale = -6; scale <= 6; scale++) {
            for (int n = 0; n <= 13; n++) {
                int power = n;
                for (String digits : new String[] {"0", "-1"}) {
                    String name = digits + " with scale " + scale + " to the power " + n;
                    if (Math.abs(n * scale) > 6) {
                        notKept(name, x -> x.power(OUT, 0, power), FULL, digits + "/" + scale);
                    } else {
                        String want = n == 0 ? "1" : digits.equals("0") ? "0" : n % 2 == 0 ? "1" : "-1";
                        raised(digits + "/" + scale, n, want + "/" + n * scale);
                    }
                }
            }
        }
        notKept("0.1 to the power 40", x -> x.power(OUT, 0, 40), FULL, "1/1");
    }
}
