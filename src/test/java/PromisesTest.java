import java.math.BigInteger;

/**
 * What the document promises, promise by promise: ordinary inputs, its edges, and wrong inputs.
 * Most cases make one call on a new object; a decimal is told as "digits/scale".
 */
public final class PromisesTest extends Bench {
    public static void main(String[] args) {
        promise1NewObject();
        promise2Load();
        promise2LoadWrong();
        promise3Push();
        promise3PushLimits();
        promise4Sums();
        promise4SumLimits();
        promise4Products();
        promise4ProductLimits();
        promise4GreaterAndLess();
        promise4Wrong();
        promises5And7Ways();
        promise5Divide();
        promise5LongDivide();
        promise5Order();
        promise6Part();
        promise6PartIntoOperands();
        promise6PartLimits();
        promise7Scale();
        promise7Order();
        promise8Round();
        promise8RoundLimits();
        promise9Turn();
        promise9TurnLimits();
        promise10Move();
        promise10MoveLimits();
        promise11Power();
        promise11PowerLimits();
        promise12Compare();
        promise13Same();
        promise14Look();
        promise15Digit();
        promise16Whole();
        promise17Write();
        promise17Text();
        promise18Octet();
        promise19ZeroWritten();
        CHECK.end("PromisesTest");
    }

    private static void promise1NewObject() {
        DecimalRegisters x = new DecimalRegisters();
        for (int k = 0; k < 6; k++) {
            CHECK.holds("new", x, k, "0/0");
            CHECK.due("new, look(0)", x.look(0, k), 0);
            CHECK.due("new, look(1)", x.look(1, k), 1);
        }
        CHECK.due("new, octet(0)", x.octet(0), -1);
        DecimalRegisters y = new DecimalRegisters();
        x.load(0, 5, 1);
        x.write(0);
        CHECK.holds("another object", y, 0, "0/0");
        CHECK.due("another object, octet(0)", y.octet(0), -1);
    }

    private static void loads(long v, int scale, String want) {
        DecimalRegisters x = with();
        CHECK.due("load of " + want, x.load(OUT, v, scale), 0);
        CHECK.holds("load of " + want, x, OUT, want);
    }

    private static void promise2Load() {
        loads(1234, 2, "1234/2");
        loads(-1, -6, "-1/-6");
        loads(0, 3, "0/3");
        loads(1000000, 6, "1000000/6");
        loads(Long.MAX_VALUE, 6, "9223372036854775807/6");
        loads(Long.MIN_VALUE, 0, "-9223372036854775808/0");
    }

    private static void promise2LoadWrong() {
        for (int scale : NO_SCALES) {
            notKept("load with scale " + scale, x -> x.load(OUT, 5, scale), FULL);
        }
        for (int no : NO_REGISTERS) {
            notKept("load " + no, x -> x.load(no, 5, 0), REFUSED);
            notKept("load " + no + " with scale 7", x -> x.load(no, 5, 7), REFUSED);
        }
    }

    private static void pushes(String before, long v, String want) {
        DecimalRegisters x = with(before);
        CHECK.due("push of " + v + " on " + before, x.push(0, v), Check.precision(want));
        CHECK.holds("push of " + v + " on " + before, x, 0, want);
    }

    private static void promise3Push() {
        pushes("0/0", 7, "7/0");
        pushes("7/0", 12, "7000000000000000012/0");
        pushes("-3/5", 9, "-3000000000000000009/5");
        pushes("4/-2", -9, "4000000000000000009/-2");
        pushes("0/4", -9, "9/4");
        pushes("0/-6", 0, "0/-6");
        pushes("-1/0", 0, "-" + ten(18) + "/0");
        pushes("1/0", 999999999999999999L, "1" + nines(18) + "/0");
        pushes("1/0", 2345678901234567890L, "1345678901234567890/0");
        pushes("1/0", ten18(), ten(18) + "/0");
        pushes("1/0", Long.MIN_VALUE, "1223372036854775808/0");
        pushes("1/0", Long.MAX_VALUE, "1223372036854775807/0");
        DecimalRegisters x = with("-1/0");
        x.scale(0, 0, -1, 1);
        CHECK.due("push on a 0 that was minus", x.push(0, 9), 1);
        CHECK.holds("push on a 0 that was minus", x, 0, "9/-1");
    }

    private static long ten18() {
        return 1_000_000_000_000_000_000L;
    }

    private static void promise3PushLimits() {
        pushes(nines(172) + "/2", 5, nines(172) + zeros(17) + "5/2");
        DecimalRegisters x = with("-" + nines(173) + "/2");
        CHECK.due("push to 191 digits", x.push(0, 5), FULL);
        CHECK.holds("push to 191 digits", x, 0, "-" + nines(173) + "/2");
        for (int no : NO_REGISTERS) {
            notKept("push " + no, y -> y.push(no, 5), REFUSED);
        }
    }

    private static void sum(String i, String j, String want) {
        kept(i + " + " + j, x -> x.reckon(0, OUT, 0, 1), want, i, j);
    }

    private static void difference(String i, String j, String want) {
        kept(i + " - " + j, x -> x.reckon(1, OUT, 0, 1), want, i, j);
    }

    private static void promise4Sums() {
        sum("125/2", "-5/0", "-375/2");
        sum("-5/0", "125/2", "-375/2");
        sum("125/2", "0/4", "12500/4");
        sum("7/-3", "125/2", "700125/2");
        sum("125/2", "-125/2", "0/2");
        sum("-125/2", "-125/2", "-250/2");
        sum("7/-3", "7/-3", "14/-3");
        sum("1/-6", "1/6", "1000000000001/6");
        sum("999999/0", "1/0", "1000000/0");
        sum(nines(36) + "/0", "1/0", ten(36) + "/0");
        difference("125/2", "-5/0", "625/2");
        difference("-5/0", "125/2", "-625/2");
        difference("0/4", "125/2", "-12500/4");
        difference("-125/2", "-125/2", "0/2");
        difference("0/4", "0/4", "0/4");
        difference("0/0", "0/-3", "0/0");
        difference("5/0", "7/0", "-2/0");
        difference("-5/0", "-7/0", "2/0");
        difference(ten(36) + "/0", "1/0", nines(36) + "/0");
        difference("1/0", ten(36) + "/0", "-" + nines(36) + "/0");
        DecimalRegisters x = with("-35/1");
        CHECK.due("register 0 doubled", x.reckon(0, 0, 0, 0), 2);
        CHECK.holds("register 0 doubled", x, 0, "-70/1");
        CHECK.due("register 0 less itself", x.reckon(1, 0, 0, 0), 1);
        CHECK.holds("register 0 less itself", x, 0, "0/1");
    }

    private static void promise4SumLimits() {
        sum(nines(190) + "/0", "-1/0", nines(189) + "8/0");
        notKept("a sum of 191 digits", x -> x.reckon(0, OUT, 0, 1), FULL, nines(190) + "/0", "1/0");
        notKept("a difference of 191 digits", x -> x.reckon(1, OUT, 0, 1), FULL, "-" + nines(190) + "/0", "1/0");
        notKept("a sum too long by its 0s", x -> x.reckon(0, OUT, 0, 1), FULL, nines(190) + "/0", "0/1");
        notKept("a sum of 202 digits", x -> x.reckon(0, OUT, 0, 1), FULL, nines(190) + "/-6", "1/6");
        // The first one has 191 digits with the scale of the second, but the difference has one.
        difference(ten(189) + "/0", nines(190) + "/1", "1/1");
    }

    private static void product(String i, String j, String want) {
        kept(i + " * " + j, x -> x.reckon(2, OUT, 0, 1), want, i, j);
    }

    private static void promise4Products() {
        product("-25/1", "4/2", "-100/3");
        product("-25/1", "-25/1", "625/2");
        product("-25/1", "0/-2", "0/-1");
        product("4/2", "1/4", "4/6");
        product("3/-2", "3/-4", "9/-6");
        product("1/6", "1/-6", "1/0");
        product("999999/0", "999999/0", "999998000001/0");
        product(nines(95) + "/0", nines(95) + "/0", nines(94) + "8" + zeros(94) + "1/0");
        product(nines(190) + "/0", "1/0", nines(190) + "/0");
        product(ten(94) + "/0", ten(95) + "/0", ten(189) + "/0");
        DecimalRegisters x = with("-25/1");
        CHECK.due("register 0 squared", x.reckon(2, 0, 0, 0), 3);
        CHECK.holds("register 0 squared", x, 0, "625/2");
    }

    private static void promise4ProductLimits() {
        Call product = x -> x.reckon(2, OUT, 0, 1);
        notKept("a product with scale 7", product, FULL, "1/4", "1/3");
        notKept("a product with scale -7", product, FULL, "1/-4", "1/-3");
        notKept("a product 0 with scale 12", product, FULL, "0/6", "0/6");
        notKept("a product of 191 digits", product, FULL, nines(95) + "/0", nines(96) + "/0");
        notKept("a product of 10^190", product, FULL, ten(95) + "/0", ten(95) + "/0");
        notKept("a product of 380 digits", product, FULL, nines(190) + "/0", nines(190) + "/0");
    }

    private static void greaterAndLess(String i, String j, String greater, String less) {
        kept("the greater of " + i + ", " + j, x -> x.reckon(3, OUT, 0, 1), greater, i, j);
        kept("the less of " + i + ", " + j, x -> x.reckon(4, OUT, 0, 1), less, i, j);
    }

    private static void promise4GreaterAndLess() {
        greaterAndLess("15/1", "2/0", "2/0", "15/1");
        greaterAndLess("2/0", "15/1", "2/0", "15/1");
        greaterAndLess("-3/0", "-25/1", "-25/1", "-3/0");
        greaterAndLess("15/1", "-3/0", "15/1", "-3/0");
        greaterAndLess("2/0", "20/1", "2/0", "2/0");
        greaterAndLess("20/1", "2/0", "20/1", "20/1");
        greaterAndLess("0/-6", "0/6", "0/-6", "0/-6");
        greaterAndLess(nines(190) + "/-6", "1/6", nines(190) + "/-6", "1/6");
    }

    private static void promise4Wrong() {
        for (int op : new int[] {-1, 5, Integer.MIN_VALUE, Integer.MAX_VALUE}) {
            notKept("reckon " + op, x -> x.reckon(op, OUT, 0, 1), REFUSED, "1/0", "2/0");
        }
        for (int no : NO_REGISTERS) {
            for (int op = 0; op < 5; op++) {
                int asked = op;
                notKept("reckon to " + no, x -> x.reckon(asked, no, 0, 1), REFUSED, "1/6", "2/6");
                notKept("reckon of " + no, x -> x.reckon(asked, OUT, no, 1), REFUSED, "1/6", "2/6");
                notKept("reckon with " + no, x -> x.reckon(asked, OUT, 0, no), REFUSED, "1/6", "2/6");
            }
        }
    }

    /** What the ways 0 to 6 make of a number of tenths, rounded to whole ones. */
    private static void promises5And7Ways() {
        int[][] rows = {
            {24, 3, 2, 3, 2, 2, 2, 2}, {25, 3, 2, 3, 2, 3, 2, 2}, {26, 3, 2, 3, 2, 3, 3, 3},
            {35, 4, 3, 4, 3, 4, 3, 4}, {20, 2, 2, 2, 2, 2, 2, 2}, {5, 1, 0, 1, 0, 1, 0, 0},
            {-24, -3, -2, -2, -3, -2, -2, -2}, {-25, -3, -2, -2, -3, -3, -2, -2},
            {-26, -3, -2, -2, -3, -3, -3, -3}, {-35, -4, -3, -3, -4, -4, -3, -4},
            {-20, -2, -2, -2, -2, -2, -2, -2}, {-5, -1, 0, 0, -1, -1, 0, 0}, {1, 1, 0, 1, 0, 0, 0, 0},
            {-1, -1, 0, 0, -1, 0, 0, 0}, {0, 0, 0, 0, 0, 0, 0, 0}, {-4, -1, 0, 0, -1, 0, 0, 0},
        };
        for (int[] row : rows) {
            for (int n = 0; n < 7; n++) {
                int way = n;
                String name = row[0] + " tenths, way " + way;
                String want = row[way + 1] + "/0";
                kept("scale, " + name, x -> x.scale(OUT, 0, 0, way), want, row[0] + "/1");
                kept("divide, " + name, x -> x.divide(OUT, 0, 1, 0, way), want, 2 * row[0] + "/1", "2/0");
                kept("divide by a minus, " + name, x -> x.divide(OUT, 0, 1, 0, way), want, -row[0] + "/0", "-1/-1");
            }
            wayNotAtAll(row[0]);
        }
    }

    private static void wayNotAtAll(int tenths) {
        String name = tenths + " tenths, way 7";
        if (tenths % 10 == 0) {
            kept("scale, " + name, x -> x.scale(OUT, 0, 0, 7), tenths / 10 + "/0", tenths + "/1");
            kept("divide, " + name, x -> x.divide(OUT, 0, 1, 0, 7), tenths / 10 + "/0", tenths + "/0", "10/0");
        } else {
            notKept("scale, " + name, x -> x.scale(OUT, 0, 0, 7), INEXACT, tenths + "/1");
            notKept("divide, " + name, x -> x.divide(OUT, 0, 1, 0, 7), INEXACT, tenths + "/0", "10/0");
        }
    }

    private static void quotient(String i, String j, int scale, int way, String want) {
        String name = i + " / " + j + " to scale " + scale + ", way " + way;
        kept(name, x -> x.divide(OUT, 0, 1, scale, way), want, i, j);
    }

    private static void promise5Divide() {
        quotient("7/0", "3/0", 6, 6, "2333333/6");
        quotient("7/0", "3/0", -6, 0, "1/-6");
        quotient("7/0", "3/0", -6, 1, "0/-6");
        quotient("-7/0", "3/0", 2, 3, "-234/2");
        quotient("-7/0", "3/0", 2, 2, "-233/2");
        quotient("-7/0", "-3/0", 2, 2, "234/2");
        quotient("5/1", "2/0", 2, 7, "25/2");
        quotient("100/2", "1/0", 0, 7, "1/0");
        quotient("-1/-6", "1/6", 6, 7, "-" + ten(18) + "/6");
        quotient("1/6", "-1/-6", -6, 0, "-1/-6");
        quotient("1/6", "-1/-6", -6, 4, "0/-6");
        quotient("0/3", "-7/0", 2, 0, "0/2");
        quotient("1/0", "1999999/6", 0, 6, "1/0");
        quotient("1/0", "2000000/6", 0, 6, "0/0");
        quotient("1/0", "2000001/6", 0, 4, "0/0");
        DecimalRegisters x = with("7/0", "3/0");
        CHECK.due("7 / 3 over the 7", x.divide(0, 0, 1, 1, 1), 2);
        CHECK.holds("7 / 3 over the 7", x, 0, "23/1");
        CHECK.due("2.3 / 3 over the 3", x.divide(1, 0, 1, 3, 4), 3);
        CHECK.holds("2.3 / 3 over the 3", x, 1, "767/3");
        CHECK.due("0.767 / 0.767", x.divide(1, 1, 1, 0, 7), 1);
        CHECK.holds("0.767 / 0.767", x, 1, "1/0");
    }

    private static void promise5LongDivide() {
        quotient(nines(190) + "/0", nines(95) + "/0", 0, 7, "1" + zeros(94) + "1/0");
        quotient(nines(190) + "/0", nines(190) + "/0", 6, 7, ten(6) + "/6");
        quotient(nines(190) + "/0", "1/0", 0, 7, nines(190) + "/0");
        quotient(nines(190) + "/0", "3/0", 0, 7, "3".repeat(190) + "/0");
        quotient(nines(190) + "/1", "1/0", 0, 0, ten(189) + "/0");
        // Divisors whose highest two limbs promise one time more than there is.
        String[] divisors = {ten(6) + nines(12), ten(6) + nines(90), "1" + nines(60), ten(12) + nines(6)};
        for (String divisor : divisors) {
            BigInteger j = new BigInteger(divisor);
            for (int less = -1; less < 2; less++) {
                BigInteger i = j.multiply(new BigInteger("999999000001999999")).subtract(BigInteger.valueOf(less));
                quotient(i + "/0", divisor + "/0", 0, 1, i.divide(j) + "/0");
            }
        }
    }

    private static void promise5Order() {
        for (int no : NO_REGISTERS) {
            notKept("divide to " + no, x -> x.divide(no, 0, 1, 9, 0), REFUSED, "7/0", "0/0");
            notKept("divide of " + no, x -> x.divide(OUT, no, 1, 9, 0), REFUSED, "7/0", "0/0");
            notKept("divide by " + no, x -> x.divide(OUT, 0, no, 9, 0), REFUSED, "7/0", "0/0");
        }
        for (int way : NO_WAYS) {
            notKept("divide in way " + way, x -> x.divide(OUT, 0, 1, 9, way), REFUSED, "7/0", "0/0");
            notKept("divide exactly in way " + way, x -> x.divide(OUT, 0, 1, 0, way), REFUSED, "8/0", "2/0");
        }
        for (int scale : NO_SCALES) {
            notKept("divide by 0, scale " + scale, x -> x.divide(OUT, 0, 1, scale, 0), NONE, "7/0", "0/2");
            notKept("divide, scale " + scale, x -> x.divide(OUT, 0, 1, scale, 7), FULL, "7/0", "3/0");
        }
        String longest = nines(190) + "/0";
        notKept("0 / 0", x -> x.divide(OUT, 0, 1, 0, 0), NONE, "0/0", "0/0");
        notKept("7 / 3, way 7", x -> x.divide(OUT, 0, 1, 6, 7), INEXACT, "7/0", "3/0");
        notKept("inexact and too long", x -> x.divide(OUT, 0, 1, 6, 7), INEXACT, longest, "7/0");
        notKept("exact and too long", x -> x.divide(OUT, 0, 1, 1, 7), FULL, longest, "1/0");
        notKept("too long by the scale of j", x -> x.divide(OUT, 0, 1, 0, 7), FULL, longest, "1/1");
        notKept("rounded and too long", x -> x.divide(OUT, 0, 1, 3, 0), FULL, longest, "7/0");
    }

    private static void parts(String i, String j, String q, String r) {
        String[] behind = state(i, j);
        behind[OUT] = q;
        behind[4] = r;
        leaves("part of " + i + ", " + j, x -> x.part(OUT, 4, 0, 1), Check.precision(q), behind, i, j);
    }

    private static void promise6Part() {
        parts("17/0", "5/0", "3/0", "2/0");
        parts("-17/0", "5/0", "-3/0", "-2/0");
        parts("17/0", "-5/0", "-3/0", "2/0");
        parts("-17/0", "-5/0", "3/0", "-2/0");
        parts("19/0", "5/0", "3/0", "4/0");
        parts("175/1", "5/2", "350/0", "0/2");
        parts("1/0", "3/1", "3/0", "1/1");
        parts("1234/3", "5/-1", "0/0", "1234/3");
        parts("-12345/2", "1/1", "-1234/0", "-5/2");
        parts("0/3", "-7/1", "0/0", "0/3");
        parts("-7/-6", "3/6", "-2333333333333/0", "-1/6");
        parts("7/-3", "2/-3", "3/0", "1/-3");
        parts(nines(190) + "/0", "1/0", nines(190) + "/0", "0/0");
        parts(nines(190) + "/6", "9/-6", "1".repeat(178) + "/0", nines(12) + "/6");
        parts(nines(190) + "/6", nines(190) + "/-6", "0/0", nines(190) + "/6");
        parts("1/-6", nines(190) + "/6", "0/0", ten(12) + "/6");
    }

    private static void partsInto(int q, int r, String wantQ, String wantR) {
        String name = "part of -1.7 and 0.5 into " + q + ", " + r;
        DecimalRegisters x = with("-17/1", "50/2");
        CHECK.due(name, x.part(q, r, 0, 1), Check.precision(wantQ));
        CHECK.holds(name, x, q, wantQ);
        CHECK.holds(name, x, r, wantR);
    }

    private static void promise6PartIntoOperands() {
        partsInto(0, 1, "-3/0", "-20/2");
        partsInto(1, 0, "-3/0", "-20/2");
        partsInto(0, 2, "-3/0", "-20/2");
        partsInto(2, 0, "-3/0", "-20/2");
        partsInto(1, 2, "-3/0", "-20/2");
        partsInto(2, 1, "-3/0", "-20/2");
        DecimalRegisters x = with("-17/1");
        CHECK.due("part of a register and itself", x.part(0, 1, 0, 0), 1);
        CHECK.holds("part of a register and itself", x, 0, "1/0");
        CHECK.holds("part of a register and itself", x, 1, "0/1");
    }

    private static void promise6PartLimits() {
        for (int no : NO_REGISTERS) {
            notKept("part to " + no, x -> x.part(no, OUT, 0, 1), REFUSED, "17/0", "0/0");
            notKept("part rest to " + no, x -> x.part(OUT, no, 0, 1), REFUSED, "17/0", "0/0");
            notKept("part of " + no, x -> x.part(OUT, 2, no, 1), REFUSED, "17/0", "0/0");
            notKept("part by " + no, x -> x.part(OUT, 2, 0, no), REFUSED, "17/0", "0/0");
        }
        notKept("part into one register", x -> x.part(OUT, OUT, 0, 1), REFUSED, "17/0", "0/0");
        notKept("part by 0", x -> x.part(OUT, 2, 0, 1), NONE, "17/0", "0/4", "88/1");
        notKept("part by 0, the rest", x -> x.part(2, OUT, 0, 1), NONE, "17/0", "0/4", "88/1");
        notKept("part, 191 digits", x -> x.part(OUT, 2, 0, 1), FULL, nines(190) + "/0", "1/1", "88/1");
        notKept("part, 191 digits, the rest", x -> x.part(2, OUT, 0, 1), FULL, nines(190) + "/0", "1/1", "88/1");
    }

    private static void scaled(String i, int scale, int way, String want) {
        kept(i + " to scale " + scale + ", way " + way, x -> x.scale(OUT, 0, scale, way), want, i);
    }

    private static void promise7Scale() {
        scaled("125/2", 4, 7, "12500/4");
        scaled("125/2", 2, 7, "125/2");
        scaled("125/2", 1, 6, "12/1");
        scaled("135/2", 1, 6, "14/1");
        scaled("1250/3", 1, 6, "12/1");
        scaled("12501/4", 1, 6, "13/1");
        scaled("12501/4", 1, 5, "13/1");
        scaled("12499/4", 1, 4, "12/1");
        scaled("-125/2", -6, 3, "-1/-6");
        scaled("-125/2", -6, 2, "0/-6");
        scaled("1/-6", 6, 7, ten(12) + "/6");
        scaled(ten(12) + "/6", -6, 7, "1/-6");
        scaled("0/6", -6, 7, "0/-6");
        scaled("0/-6", 6, 7, "0/6");
        scaled("999999/3", 2, 0, "100000/2");
        scaled(nines(190) + "/6", -6, 1, nines(178) + "/-6");
        scaled(nines(190) + "/6", -6, 0, ten(178) + "/-6");
        scaled(nines(189) + "/0", 1, 7, nines(189) + "0/1");
        DecimalRegisters x = with("-125/2");
        CHECK.due("a register scaled itself", x.scale(0, 0, 1, 1), 2);
        CHECK.holds("a register scaled itself", x, 0, "-12/1");
    }

    private static void promise7Order() {
        for (int no : NO_REGISTERS) {
            notKept("scale to " + no, x -> x.scale(no, 0, 9, 0), REFUSED, "125/2");
            notKept("scale of " + no, x -> x.scale(OUT, no, 9, 0), REFUSED, "125/2");
        }
        for (int way : NO_WAYS) {
            notKept("scale in way " + way, x -> x.scale(OUT, 0, 9, way), REFUSED, "125/2");
            notKept("scale with 0s in way " + way, x -> x.scale(OUT, 0, 4, way), REFUSED, "125/2");
        }
        for (int scale : NO_SCALES) {
            notKept("scale " + scale, x -> x.scale(OUT, 0, scale, 7), FULL, "125/2");
        }
        notKept("scale, inexact", x -> x.scale(OUT, 0, 1, 7), INEXACT, "125/2");
        notKept("scale, 191 digits", x -> x.scale(OUT, 0, 1, 0), FULL, nines(190) + "/0");
        notKept("scale, 202 digits", x -> x.scale(OUT, 0, 6, 0), FULL, nines(190) + "/-6");
    }

    private static void rounded(String i, int precision, int way, String want) {
        kept(i + " to precision " + precision + ", way " + way, x -> x.round(OUT, 0, precision, way), want, i);
    }

    private static void promise8Round() {
        rounded("12345/2", 3, 4, "123/0");
        rounded("12345/2", 4, 4, "1235/1");
        rounded("12345/2", 4, 5, "1234/1");
        rounded("12345/2", 4, 6, "1234/1");
        rounded("12345/2", 5, 7, "12345/2");
        rounded("12345/2", 6, 7, "12345/2");
        rounded("12345/2", Integer.MAX_VALUE, 7, "12345/2");
        rounded("-12345/2", 1, 2, "-1/-2");
        rounded("-12345/2", 1, 3, "-2/-2");
        rounded("12300/2", 3, 7, "123/0");
        rounded("9995/3", 3, 4, "100/1");
        rounded("99999/0", 1, 0, "1/-5");
        rounded("-996/0", 2, 4, "-10/-2");
        rounded("994/0", 2, 4, "99/-1");
        rounded("0/-6", 1, 7, "0/-6");
        rounded(nines(190) + "/6", 178, 1, nines(178) + "/-6");
        rounded(nines(190) + "/6", 190, 0, nines(190) + "/6");
        rounded(nines(190) + "/6", 179, 0, ten(178) + "/-6");
        DecimalRegisters x = with("99/0");
        CHECK.due("a register rounded itself", x.round(0, 0, 1, 0), 1);
        CHECK.holds("a register rounded itself", x, 0, "1/-2");
    }

    private static void promise8RoundLimits() {
        for (int no : NO_REGISTERS) {
            notKept("round to " + no, x -> x.round(no, 0, 3, 0), REFUSED, "12345/2");
            notKept("round of " + no, x -> x.round(OUT, no, 3, 0), REFUSED, "12345/2");
        }
        for (int way : NO_WAYS) {
            notKept("round in way " + way, x -> x.round(OUT, 0, 3, way), REFUSED, "12345/2");
            notKept("keep in way " + way, x -> x.round(OUT, 0, 9, way), REFUSED, "12345/2");
        }
        for (int precision : new int[] {0, -1, Integer.MIN_VALUE}) {
            notKept("precision " + precision, x -> x.round(OUT, 0, precision, 0), REFUSED, "12345/2");
        }
        String many = nines(30) + "/6";
        notKept("19 digits off", x -> x.round(OUT, 0, 11, 7), REFUSED, many);
        notKept("18 digits off", x -> x.round(OUT, 0, 12, 1), FULL, many);
        notKept("18 digits off, inexact first", x -> x.round(OUT, 0, 12, 7), INEXACT, many);
        notKept("13 digits off, exact", x -> x.round(OUT, 0, 17, 7), FULL, ten(29) + "/6");
        notKept("12 digits off and a carry", x -> x.round(OUT, 0, 18, 0), FULL, many);
        notKept("inexact", x -> x.round(OUT, 0, 4, 7), INEXACT, "12345/2");
        rounded(many, 18, 1, nines(18) + "/-6");
        rounded(ten(29) + "/6", 18, 7, ten(17) + "/-6");
    }

    private static void turned(int op, String i, String want) {
        kept("turn " + op + " of " + i, x -> x.turn(op, OUT, 0), want, i);
    }

    private static void promise9Turn() {
        turned(0, "-125/2", "125/2");
        turned(0, "125/2", "125/2");
        turned(0, "0/-4", "0/-4");
        turned(1, "-125/2", "125/2");
        turned(1, "125/2", "-125/2");
        turned(1, "0/4", "0/4");
        turned(2, "-12500/4", "-125/2");
        turned(2, "10203/2", "10203/2");
        turned(2, "100/0", "1/-2");
        turned(2, "1000000000/6", "1/-3");
        turned(2, "10/-5", "1/-6");
        turned(2, "0/6", "0/0");
        turned(2, "0/-6", "0/0");
        turned(2, nines(178) + zeros(12) + "/6", nines(178) + "/-6");
        DecimalRegisters x = with("-50/1", "0/0");
        CHECK.due("a register turned itself", x.turn(2, 0, 0), 1);
        CHECK.holds("a register turned itself", x, 0, "-5/0");
        x.turn(1, 1, 1);
        CHECK.due("the other sign of 0", x.look(0, 1), 0);
        x.push(1, 5);
        CHECK.holds("a push on the other sign of 0", x, 1, "5/0");
    }

    private static void promise9TurnLimits() {
        notKept("turn 2 to scale -7", x -> x.turn(2, OUT, 0), FULL, "10/-6");
        notKept("turn 2 to scale -183", x -> x.turn(2, OUT, 0), FULL, ten(189) + "/6");
        for (int op : new int[] {-1, 3, Integer.MIN_VALUE, Integer.MAX_VALUE}) {
            notKept("turn " + op, x -> x.turn(op, OUT, 0), REFUSED, "125/2");
        }
        for (int no : NO_REGISTERS) {
            for (int op = 0; op < 3; op++) {
                int asked = op;
                notKept("turn to " + no, x -> x.turn(asked, no, 0), REFUSED, "125/2");
                notKept("turn of " + no, x -> x.turn(asked, OUT, no), REFUSED, "125/2");
            }
        }
    }

    private static void moved(int op, String i, int n, String want) {
        kept("move " + op + " of " + i + " by " + n, x -> x.move(op, OUT, 0, n), want, i);
    }

    private static void promise10Move() {
        moved(0, "125/2", 3, "125/-1");
        moved(0, "125/2", 8, "125/-6");
        moved(0, "125/2", -4, "125/6");
        moved(0, "-125/6", 12, "-125/-6");
        moved(0, "-125/-6", -12, "-125/6");
        moved(0, "0/2", 5, "0/-3");
        moved(0, "125/-3", 0, "125/-3");
        moved(1, "125/2", 1, "125/1");
        moved(1, "125/2", 2, "125/0");
        moved(1, "125/2", 3, "1250/0");
        moved(1, "-125/-6", 12, "-125" + zeros(18) + "/0");
        moved(1, "125/-3", 0, "125000/0");
        moved(1, "125/-3", -1, "12500/0");
        moved(1, "125/-3", -4, "125/1");
        moved(1, "0/-6", 12, "0/0");
        moved(1, nines(178) + "/0", 12, nines(178) + zeros(12) + "/0");
        DecimalRegisters x = with("125/2");
        CHECK.due("a register moved itself", x.move(1, 0, 0, 3), 4);
        CHECK.holds("a register moved itself", x, 0, "1250/0");
    }

    private static void promise10MoveLimits() {
        for (int n = 0; n < 2; n++) {
            int op = n;
            for (int far : new int[] {-13, 13, Integer.MIN_VALUE, Integer.MAX_VALUE}) {
                notKept("move by " + far, x -> x.move(op, OUT, 0, far), REFUSED, "125/2");
            }
            for (int no : NO_REGISTERS) {
                notKept("move to " + no, x -> x.move(op, no, 0, 1), REFUSED, "125/2");
                notKept("move of " + no, x -> x.move(op, OUT, no, 1), REFUSED, "125/2");
            }
            notKept("move to scale 7", x -> x.move(op, OUT, 0, -5), FULL, "125/2");
            notKept("move 0 to scale 18", x -> x.move(op, OUT, 0, -12), FULL, "0/6");
        }
        for (int op : new int[] {-1, 2, Integer.MIN_VALUE, Integer.MAX_VALUE}) {
            notKept("move " + op, x -> x.move(op, OUT, 0, 1), REFUSED, "125/2");
        }
        notKept("move to scale -7", x -> x.move(0, OUT, 0, 9), FULL, "125/2");
        notKept("move to 191 digits", x -> x.move(1, OUT, 0, 1), FULL, nines(190) + "/0");
        notKept("move to 208 digits", x -> x.move(1, OUT, 0, 12), FULL, nines(190) + "/-6");
    }

    private static void raised(String i, int n, String want) {
        kept(i + " to the power " + n, x -> x.power(OUT, 0, n), want, i);
    }

    private static void promise11Power() {
        raised("-15/1", 3, "-3375/3");
        raised("-15/1", 2, "225/2");
        raised("-15/1", 1, "-15/1");
        raised("-15/1", 0, "1/0");
        raised("0/6", 0, "1/0");
        raised("0/2", 3, "0/6");
        raised("0/0", 40, "0/0");
        raised("1/-2", 3, "1/-6");
        raised("2/0", 40, "1099511627776/0");
        raised("-2/0", 39, "-549755813888/0");
        raised("9999/0", 40, new BigInteger("9999").pow(40) + "/0");
        raised("10000/0", 38, ten(152) + "/0");
        raised(nines(95) + "/0", 2, nines(94) + "8" + zeros(94) + "1/0");
        raised(nines(190) + "/6", 1, nines(190) + "/6");
        raised(nines(190) + "/6", 0, "1/0");
        DecimalRegisters x = with("-3/1");
        CHECK.due("a register raised itself", x.power(0, 0, 4), 2);
        CHECK.holds("a register raised itself", x, 0, "81/4");
    }

    private static void promise11PowerLimits() {
        for (int n : new int[] {-1, 41, Integer.MIN_VALUE, Integer.MAX_VALUE}) {
            notKept("power " + n, x -> x.power(OUT, 0, n), REFUSED, "1/0");
        }
        for (int no : NO_REGISTERS) {
            notKept("power to " + no, x -> x.power(no, 0, 1), REFUSED, "2/0");
            notKept("power of " + no, x -> x.power(OUT, no, 1), REFUSED, "2/0");
        }
        notKept("power, scale 8", x -> x.power(OUT, 0, 4), FULL, "2/2");
        notKept("power of 0, scale 8", x -> x.power(OUT, 0, 4), FULL, "0/2");
        notKept("power, scale -7", x -> x.power(OUT, 0, 7), FULL, "1/-1");
        notKept("power, 2 times 96 digits make 191", x -> x.power(OUT, 0, 2), FULL, ten(95) + "/0");
        notKept("power, 39 times 5 digits make 157", x -> x.power(OUT, 0, 39), FULL, "10000/0");
        notKept("power, 40 times 190 digits", x -> x.power(OUT, 0, 40), FULL, nines(190) + "/0");
    }

    private static void promise12Compare() {
        String[] rising = {
            "-" + nines(190) + "/-6", "-3/0", "-25/1", "-1/6", "0/0", "1/6", "25/1", "2501/3", "3/0", "1/-6",
            nines(190) + "/6", nines(190) + "/-6",
        };
        for (int a = 0; a < rising.length; a++) {
            for (int b = 0; b < rising.length; b++) {
                DecimalRegisters x = with(rising[a], rising[b]);
                CHECK.due("compare " + rising[a] + ", " + rising[b], x.compare(0, 1), Integer.compare(a, b));
            }
        }
        DecimalRegisters x = with("100/2", "1/0", "-100/2", "-1/0", "0/6", "0/-6");
        CHECK.due("compare 1.00, 1", x.compare(0, 1), 0);
        CHECK.due("compare -1.00, -1", x.compare(2, 3), 0);
        CHECK.due("compare 0s", x.compare(4, 5), 0);
        CHECK.due("compare with itself", x.compare(0, 0), 0);
        for (int no : NO_REGISTERS) {
            CHECK.due("compare " + no + ", 0", x.compare(no, 0), -2);
            CHECK.due("compare 0, " + no, x.compare(0, no), -2);
            CHECK.due("compare " + no + " twice", x.compare(no, no), -2);
        }
    }

    private static void promise13Same() {
        DecimalRegisters x = with("100/2", "1/0", "-100/2", "100/2", "100/1");
        CHECK.due("same 1.00, 1.00", x.same(0, 3), true);
        CHECK.due("same with itself", x.same(0, 0), true);
        CHECK.due("same 1.00, 1", x.same(0, 1), false);
        CHECK.due("same 1.00, -1.00", x.same(0, 2), false);
        CHECK.due("same 1.00, 10.0", x.same(0, 4), false);
        x.load(1, 0, 2);
        x.reckon(0, 2, 0, 2);
        CHECK.due("same 0s", x.same(1, 2), true);
        x.load(3, -4, 0);
        x.scale(3, 3, -1, 1);
        x.scale(3, 3, 2, 1);
        CHECK.due("same 0s, one that was minus", x.same(1, 3), true);
        x.load(2, 0, 3);
        CHECK.due("same 0s with other scales", x.same(1, 2), false);
        for (int no : NO_REGISTERS) {
            CHECK.due("same " + no + ", 0", x.same(no, 0), false);
            CHECK.due("same 0, " + no, x.same(0, no), false);
            CHECK.due("same " + no + " twice", x.same(no, no), false);
        }
    }

    private static void promise14Look() {
        DecimalRegisters x = with("-12345/-4", "1/6", "0/2", nines(190) + "/0", "1000000/0", "999999/0");
        int[][] rows = {{-1, 5, -4}, {1, 1, 6}, {0, 1, 2}, {1, 190, 0}, {1, 7, 0}, {1, 6, 0}};
        for (int i = 0; i < 6; i++) {
            for (int what = 0; what < 3; what++) {
                CHECK.due("look(" + what + ", " + i + ")", x.look(what, i), rows[i][what]);
            }
        }
        for (int what : new int[] {-1, 3, Integer.MIN_VALUE, Integer.MAX_VALUE}) {
            CHECK.due("look(" + what + ", 0)", x.look(what, 0), REFUSED);
            CHECK.due("look(" + what + ", 6)", x.look(what, 6), REFUSED);
        }
        for (int no : NO_REGISTERS) {
            CHECK.due("look(0, " + no + ")", x.look(0, no), REFUSED);
            CHECK.due("look(1, " + no + ")", x.look(1, no), REFUSED);
            CHECK.due("look(2, " + no + ")", x.look(2, no), 1000);
        }
    }

    private static void promise15Digit() {
        DecimalRegisters x = with("-9876543210/3", "0/5", nines(190) + "/0");
        for (int n = 0; n < 10; n++) {
            CHECK.due("digit(0, " + n + ")", x.digit(0, n), n);
        }
        CHECK.due("digit(0, 10)", x.digit(0, 10), -1);
        CHECK.due("digit(1, 0)", x.digit(1, 0), 0);
        CHECK.due("digit(1, 1)", x.digit(1, 1), -1);
        CHECK.due("digit(2, 189)", x.digit(2, 189), 9);
        CHECK.due("digit(2, 190)", x.digit(2, 190), -1);
        for (int n : new int[] {-1, -6, Integer.MIN_VALUE, Integer.MAX_VALUE}) {
            CHECK.due("digit(0, " + n + ")", x.digit(0, n), -1);
        }
        for (int no : NO_REGISTERS) {
            CHECK.due("digit(" + no + ", 0)", x.digit(no, 0), -1);
        }
    }

    private static void wholeOf(String i, long want) {
        CHECK.due("whole of " + i, with(i).whole(0), want);
    }

    private static void promise16Whole() {
        wholeOf("1999/3", 1);
        wholeOf("-1999/3", -1);
        wholeOf("-999/3", 0);
        wholeOf("0/-6", 0);
        wholeOf("12/-6", 12000000);
        wholeOf("9223372036854775807/0", Long.MAX_VALUE);
        wholeOf("9223372036854775808/0", Long.MIN_VALUE);
        wholeOf("-9223372036854775808/0", Long.MIN_VALUE);
        wholeOf("-9223372036854775809/0", Long.MAX_VALUE);
        wholeOf("18446744073709551617/0", 1);
        wholeOf("-184467440737095516179/1", -1);
        wholeOf(nines(190) + "/-6", new BigInteger(nines(190) + zeros(6)).longValue());
        wholeOf("-" + nines(190) + "/3", new BigInteger("-" + nines(187)).longValue());
        for (int no : NO_REGISTERS) {
            CHECK.due("whole(" + no + ")", with("5/0").whole(no), 0);
        }
    }

    private static void promise17Write() {
        String[][] rows = {
            {"12345/2", "123.45"}, {"-12345/2", "-123.45"}, {"12345/5", "0.12345"}, {"-12345/6", "-0.012345"},
            {"1/6", "0.000001"}, {"12345/0", "12345"}, {"-12345/-3", "-12345000"}, {"1/-6", "1000000"},
            {"0/0", "0"}, {"0/1", "0.0"}, {"0/6", "0.000000"}, {"100/2", "1.00"}, {"10/2", "0.10"},
            {"-" + nines(190) + "/-6", "-" + nines(190) + zeros(6)},
            {"-" + nines(190) + "/6", "-" + nines(184) + "." + nines(6)},
        };
        for (String[] row : rows) {
            leavesText("write of " + row[0], x -> x.write(0), row[1].length(), state(row[0]), row[1], row[0]);
        }
    }

    private static void promise17Text() {
        DecimalRegisters x = with("12345/2", "7/0");
        x.write(0);
        for (int no : NO_REGISTERS) {
            CHECK.due("write(" + no + ")", x.write(no), REFUSED);
        }
        CHECK.due("the text behind a refused write", Check.text(x, 9), "123.45");
        x.load(0, 1, 0);
        CHECK.due("the text behind a load", Check.text(x, 9), "123.45");
        CHECK.writes("a shorter text", x, 1, "7");
    }

    private static void promise18Octet() {
        DecimalRegisters x = with("-105/2");
        x.write(0);
        int[] signs = {'-', '1', '.', '0', '5'};
        for (int k = 0; k < signs.length; k++) {
            CHECK.due("octet(" + k + ")", x.octet(k), signs[k]);
        }
        for (int k : new int[] {-1, 5, 6, 199, 200, 201, Integer.MIN_VALUE, Integer.MAX_VALUE}) {
            CHECK.due("octet(" + k + ")", x.octet(k), -1);
        }
    }

    private static void promise19ZeroWritten() {
        for (int scale = -6; scale <= 0; scale++) {
            CHECK.writes("0 with scale " + scale, with("0/" + scale), 0, "0");
        }
        DecimalRegisters x = with("-3/0");
        x.scale(0, 0, -3, 1);
        CHECK.writes("a 0 that was minus", x, 0, "0");
    }
}
