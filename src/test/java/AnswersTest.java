import java.math.BigInteger;

/**
 * The sentences of the promises 12 to 19, the calls that change no register, that name a boundary:
 * each has a test of its own, on both sides of the boundary, under the sentence's own words.
 */
public final class AnswersTest extends Bench {
    private static final String MOST = nines(190);

    public static void main(String[] args) {
        compareLessTheSameGreater();
        compareAnotherRegister();
        sameDigitsAndScale();
        sameForOthers();
        lookAtTheSign();
        lookAtThePrecisionAndScale();
        lookAtAnotherRegister();
        lookRefused();
        digitBehindTheLast();
        digitOfAnotherRegister();
        wholeCutTo0();
        wholeLowest64Bits();
        wholeOfAnotherRegister();
        writeWithAPoint();
        writeWithA0InFront();
        writeWith0sBehind();
        writeHowManySigns();
        writeRefused();
        octetThatThereIsNot();
        octetOfAnOlderText();
        zeroWithAScaleBelow0();
        CHECK.end("AnswersTest");
    }

    private static void compared(String i, String j, int want) {
        notKept("compare " + i + ", " + j, x -> x.compare(0, 1), want, i, j);
        notKept("compare " + j + ", " + i, x -> x.compare(1, 0), -want, i, j);
    }

    /** 12: "-1, 0, 1: what register i means is less, the same, greater than that of register j". */
    private static void compareLessTheSameGreater() {
        compared("2/0", "3/0", -1);
        compared("2/0", "2/0", 0);
        compared("20/1", "2/0", 0);
        compared("-20/1", "-2/0", 0);
        compared("0/6", "0/-6", 0);
        compared(ten(12) + "/6", "1/-6", 0);
        compared(nines(12) + "/6", "1/-6", -1);
        compared(ten(11) + "1/6", "1/-6", 1);
        compared("-" + nines(12) + "/6", "-1/-6", 1);
        compared("-2/0", "-3/0", 1);
        compared("-1/6", "0/0", -1);
        compared("-1/6", "0/-6", -1);
        compared("0/0", "1/6", -1);
        compared("-1/6", "1/6", -1);
        compared("-" + MOST + "/-6", "1/6", -1);
        compared(MOST + "/6", MOST + "/5", -1);
        compared(MOST + "/0", nines(189) + "8/0", 1);
        notKept("compare with itself", x -> x.compare(0, 0), 0, "-" + MOST + "/6");
    }

    /** 12: "-2 for another register." */
    private static void compareAnotherRegister() {
        for (int no : NO_REGISTERS) {
            for (int n = 0; n < REGISTERS; n++) {
                int k = n;
                notKept("compare " + no + ", " + k, x -> x.compare(no, k), -2);
                notKept("compare " + k + ", " + no, x -> x.compare(k, no), -2);
            }
            notKept("compare " + no + " with itself", x -> x.compare(no, no), -2);
        }
        for (int n = 0; n < REGISTERS; n++) {
            int k = n;
            notKept("compare " + k + " with itself", x -> x.compare(k, k), 0);
        }
    }

    private static void same(String i, String j, boolean want) {
        notKept("same " + i + ", " + j, x -> x.same(0, 1) ? 1 : 0, want ? 1 : 0, i, j);
        notKept("same " + j + ", " + i, x -> x.same(1, 0) ? 1 : 0, want ? 1 : 0, i, j);
    }

    /** 13: "Whether two registers have the same digits and scale". */
    private static void sameDigitsAndScale() {
        same("20/1", "20/1", true);
        same("-20/1", "-20/1", true);
        same("20/1", "2/0", false);
        same("20/1", "20/2", false);
        same("20/1", "-20/1", false);
        same("20/1", "21/1", false);
        same("0/1", "0/1", true);
        same("0/1", "0/2", false);
        same(MOST + "/6", MOST + "/6", true);
        same(MOST + "/6", nines(189) + "8/6", false);
        same(MOST + "/6", "8" + nines(189) + "/6", false);
        same(MOST + "/6", nines(189) + "/6", false);
        DecimalRegisters x = with("-4/1", "0/0");
        x.scale(0, 0, 0, 1);
        CHECK.due("same 0s, one that was minus", x.same(0, 1), true);
    }

    /** 13: "false for others." */
    private static void sameForOthers() {
        for (int no : NO_REGISTERS) {
            for (int n = 0; n < REGISTERS; n++) {
                int k = n;
                notKept("same " + no + ", " + k, x -> x.same(no, k) ? 1 : 0, 0);
                notKept("same " + k + ", " + no, x -> x.same(k, no) ? 1 : 0, 0);
            }
            notKept("same " + no + " and itself", x -> x.same(no, no) ? 1 : 0, 0);
        }
        for (int n = 0; n < REGISTERS; n++) {
            int k = n;
            notKept("same " + k + " and itself", x -> x.same(k, k) ? 1 : 0, 1);
        }
    }

    private static void looked(int what, String i, int want) {
        notKept("look " + what + " at " + i, x -> x.look(what, 0), want, i);
    }

    /** 14: "its sign, -1, 0, 1". */
    private static void lookAtTheSign() {
        looked(0, "-1/6", -1);
        looked(0, "0/6", 0);
        looked(0, "1/6", 1);
        looked(0, "-" + MOST + "/-6", -1);
        looked(0, "0/-6", 0);
        looked(0, MOST + "/-6", 1);
    }

    /** 14: "its precision", "its scale". */
    private static void lookAtThePrecisionAndScale() {
        looked(1, "0/6", 1);
        looked(1, "-9/6", 1);
        looked(1, "-10/6", 2);
        looked(1, "999999/6", 6);
        looked(1, "1000000/6", 7);
        looked(1, "-" + MOST + "/6", 190);
        for (int scale = -6; scale <= 6; scale++) {
            looked(2, "0/" + scale, scale);
            looked(2, "-" + MOST + "/" + scale, scale);
        }
    }

    /**
     * 14: "(1000 for another register)". The words stand behind the scale, so they are taken for
     * what 2 alone; with what 0 and 1 it is REFUSED, as the terms say.
     */
    private static void lookAtAnotherRegister() {
        for (int no : NO_REGISTERS) {
            notKept("look 2 at " + no, x -> x.look(2, no), 1000);
            notKept("look 1 at " + no, x -> x.look(1, no), REFUSED);
            notKept("look 0 at " + no, x -> x.look(0, no), REFUSED);
        }
        int[] scales = {1, -2, 3, 4, -5, 3};
        for (int n = 0; n < REGISTERS; n++) {
            int k = n;
            notKept("look 2 at " + k, x -> x.look(2, k), scales[k]);
            notKept("look 1 at " + k, x -> x.look(1, k), 2);
            notKept("look 0 at " + k, x -> x.look(0, k), k % 2 == 0 ? 1 : -1);
        }
    }

    /** 14: "REFUSED for another what." */
    private static void lookRefused() {
        for (int what : new int[] {-1, 3, 4, Integer.MIN_VALUE, Integer.MAX_VALUE}) {
            for (int n = 0; n < REGISTERS; n++) {
                int k = n;
                notKept("look " + what + " at " + k, x -> x.look(what, k), REFUSED);
            }
            for (int no : NO_REGISTERS) {
                notKept("look " + what + " at " + no, x -> x.look(what, no), REFUSED);
            }
        }
    }

    /** 15: "Digit n, from 0, the lowest first, .. without sign; -1 behind the last". */
    private static void digitBehindTheLast() {
        String digits = "-9876543210123456789";
        for (int n = 0; n < 19; n++) {
            int at = n;
            notKept("digit " + n + " of " + digits, x -> x.digit(0, at), digits.charAt(19 - n) - '0', digits + "/6");
        }
        for (int length : new int[] {1, 5, 6, 7, 12, 13, 189, 190}) {
            for (String i : new String[] {nines(length) + "/6", "-" + nines(length) + "/-6"}) {
                notKept("the last digit of " + i, x -> x.digit(0, length - 1), 9, i);
                notKept("behind the last digit of " + i, x -> x.digit(0, length), -1, i);
                notKept("far behind the last digit of " + i, x -> x.digit(0, Integer.MAX_VALUE), -1, i);
                notKept("before the first digit of " + i, x -> x.digit(0, -1), -1, i);
                notKept("far before the first digit of " + i, x -> x.digit(0, Integer.MIN_VALUE), -1, i);
            }
        }
        notKept("digit 0 of 0", x -> x.digit(0, 0), 0, "0/6");
        notKept("digit 1 of 0", x -> x.digit(0, 1), -1, "0/6");
        notKept("0s at the end are digits", x -> x.digit(0, 11), 0, ten(12) + "/0");
        notKept("0s by a scale are none", x -> x.digit(0, 1), -1, "1/-6");
    }

    /** 15: "or for another register." */
    private static void digitOfAnotherRegister() {
        for (int no : NO_REGISTERS) {
            for (int n : new int[] {-1, 0, 1, 189, 190}) {
                notKept("digit(" + no + ", " + n + ")", x -> x.digit(no, n), -1);
            }
        }
        for (int n = 0; n < REGISTERS - 1; n++) {
            int k = n;
            notKept("digit(" + k + ", 1)", x -> x.digit(k, 1), k + 1);
        }
    }

    private static void wholeOf(String i, long want) {
        DecimalRegisters x = with(i);
        CHECK.due("whole of " + i, x.whole(0), want);
        notKept("whole of " + i + " cut to an int", y -> (int) y.whole(0), (int) want, i);
    }

    /** 16: "The whole part of register i (cut to 0)". */
    private static void wholeCutTo0() {
        wholeOf("1/0", 1);
        wholeOf("9/1", 0);
        wholeOf("-9/1", 0);
        wholeOf("10/1", 1);
        wholeOf("-10/1", -1);
        wholeOf("19/1", 1);
        wholeOf("-19/1", -1);
        wholeOf("999999/6", 0);
        wholeOf("-1999999/6", -1);
        wholeOf("1/-6", 1000000);
        wholeOf("-1/-6", -1000000);
        wholeOf("0/-6", 0);
        wholeOf("0/6", 0);
    }

    /** 16: "its lowest 64 bits as a long". */
    private static void wholeLowest64Bits() {
        wholeOf("9223372036854775807/0", Long.MAX_VALUE);
        wholeOf("9223372036854775808/0", Long.MIN_VALUE);
        wholeOf("-9223372036854775808/0", Long.MIN_VALUE);
        wholeOf("-9223372036854775809/0", Long.MAX_VALUE);
        wholeOf("18446744073709551615/0", -1);
        wholeOf("18446744073709551616/0", 0);
        wholeOf("18446744073709551617/0", 1);
        wholeOf("-18446744073709551615/0", 1);
        wholeOf("-18446744073709551616/0", 0);
        wholeOf("-18446744073709551617/0", -1);
        wholeOf("92233720368547758079/1", Long.MAX_VALUE);
        wholeOf("-92233720368547758089/1", Long.MIN_VALUE);
        wholeOf("18446744073709551616999999/6", 0);
        for (int scale = -6; scale <= 6; scale++) {
            BigInteger ten = BigInteger.TEN.pow(Math.abs(scale));
            BigInteger most = new BigInteger("-" + MOST);
            wholeOf("-" + MOST + "/" + scale, (scale < 0 ? most.multiply(ten) : most.divide(ten)).longValue());
        }
    }

    /** 16: "0 for another register." */
    private static void wholeOfAnotherRegister() {
        for (int no : NO_REGISTERS) {
            notKept("whole(" + no + ")", x -> x.whole(no) == 0 ? 0 : 1, 0);
        }
        long[] wholes = {1, -2200, 0, 0, 5500000, 0};
        for (int k = 0; k < REGISTERS; k++) {
            CHECK.due("whole(" + k + ")", with().whole(k), wholes[k]);
        }
    }

    private static void written(String i, String text) {
        leavesText("write of " + i, x -> x.write(0), text.length(), state(i), text, i);
    }

    /** 17: "with a point if its scale is above 0". */
    private static void writeWithAPoint() {
        written("12345678/-1", "123456780");
        written("12345678/0", "12345678");
        written("12345678/1", "1234567.8");
        written("12345678/6", "12.345678");
        written("-12345678/0", "-12345678");
        written("-12345678/1", "-1234567.8");
        written("1000000/6", "1.000000");
        written("0/0", "0");
        written("0/1", "0.0");
        written(MOST + "/6", nines(184) + "." + nines(6));
    }

    /** 17: "(a 0 in front of it, if need be)". */
    private static void writeWithA0InFront() {
        written("123/2", "1.23");
        written("123/3", "0.123");
        written("123/4", "0.0123");
        written("-123/2", "-1.23");
        written("-123/3", "-0.123");
        written("-123/6", "-0.000123");
        written("100/2", "1.00");
        written("100/3", "0.100");
        written("999999/5", "9.99999");
        written("999999/6", "0.999999");
        written("1/6", "0.000001");
        written("0/6", "0.000000");
    }

    /** 17: "with 0s behind if it is below 0". */
    private static void writeWith0sBehind() {
        for (int below = 0; below <= 6; below++) {
            written("7/" + -below, "7" + zeros(below));
            written("-70/" + -below, "-70" + zeros(below));
            written(MOST + "/" + -below, MOST + zeros(below));
        }
        written("7/1", "0.7");
    }

    /** 17: "how many signs", the longest text too. */
    private static void writeHowManySigns() {
        DecimalRegisters x = with("-" + MOST + "/-6", "-" + MOST + "/6", "5/0");
        CHECK.due("the longest text", x.write(0), 197);
        CHECK.due("its last sign", x.octet(196), '0');
        CHECK.due("behind its last sign", x.octet(197), -1);
        CHECK.due("the longest with a point", x.write(1), 192);
        CHECK.due("its point", x.octet(185), '.');
        CHECK.due("its last sign", x.octet(191), '9');
        CHECK.due("behind its last sign", x.octet(192), -1);
        CHECK.due("the shortest text", x.write(2), 1);
        CHECK.due("behind its last sign", x.octet(1), -1);
    }

    /** Terms: "REFUSED for a register that there is not", which leaves THE TEXT as it is. */
    private static void writeRefused() {
        for (int no : NO_REGISTERS) {
            notKept("write(" + no + ")", x -> x.write(no), REFUSED);
            DecimalRegisters x = new DecimalRegisters();
            CHECK.due("write(" + no + ") at first", x.write(no), REFUSED);
            CHECK.due("the text behind it", x.octet(0), -1);
        }
        String[] texts = {"1.1", "-2200", "0.033", "-0.0044", "5500000", "-0.077"};
        for (int n = 0; n < REGISTERS; n++) {
            int k = n;
            leavesText("write(" + k + ")", x -> x.write(k), texts[k].length(), state(), texts[k]);
        }
    }

    /** 18: "Sign k of THE TEXT, -1 if there is none." */
    private static void octetThatThereIsNot() {
        for (int k : new int[] {-1, 0, 1, 196, 197, 200, Integer.MIN_VALUE, Integer.MAX_VALUE}) {
            CHECK.due("octet(" + k + ") at first", new DecimalRegisters().octet(k), -1);
        }
        int[] signs = {'-', '0', '.', '0', '7', '7'};
        for (int n = 0; n < signs.length; n++) {
            int k = n;
            notKept("octet(" + k + ")", x -> x.octet(k), signs[k]);
        }
        for (int k : new int[] {-1, 6, 7, 196, 197, 199, 200, 201, Integer.MIN_VALUE, Integer.MAX_VALUE}) {
            notKept("octet(" + k + ")", x -> x.octet(k), -1);
        }
    }

    /** 18: a sign that only an older, longer text had is none. */
    private static void octetOfAnOlderText() {
        DecimalRegisters x = with("1234567/0", "-8/0");
        x.write(0);
        CHECK.due("octet(2) of the longer text", x.octet(2), '3');
        x.write(1);
        CHECK.due("octet(1) of the shorter text", x.octet(1), '8');
        CHECK.due("octet(2) of the shorter text", x.octet(2), -1);
        x.load(1, 999, 0);
        CHECK.due("octet(1) behind a load", x.octet(1), '8');
        CHECK.due("octet(2) behind a load", x.octet(2), -1);
    }

    /** 19: "A 0 with a scale below 0 is written "0", without 0s behind." */
    private static void zeroWithAScaleBelow0() {
        for (int scale = -6; scale <= 0; scale++) {
            written("0/" + scale, "0");
            written("1/" + scale, "1" + zeros(-scale));
        }
        for (int scale = 1; scale <= 6; scale++) {
            written("0/" + scale, "0." + zeros(scale));
        }
        DecimalRegisters x = with("-4/0");
        x.scale(0, 0, -6, 1);
        CHECK.writes("a 0 that was minus", x, 0, "0");
    }
}
