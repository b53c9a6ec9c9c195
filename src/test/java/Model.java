import java.math.BigDecimal;
import java.math.BigInteger;
import java.math.RoundingMode;

/** The document told again over BigDecimal, to hold the class against. */
final class Model {
    private static final int REFUSED = -1;
    private static final int NONE = -2;
    private static final int FULL = -3;
    private static final int INEXACT = -4;
    private static final BigInteger TEN_18 = BigInteger.TEN.pow(18);
    private static final RoundingMode[] WAYS = {
        RoundingMode.UP, RoundingMode.DOWN, RoundingMode.CEILING, RoundingMode.FLOOR,
        RoundingMode.HALF_UP, RoundingMode.HALF_DOWN, RoundingMode.HALF_EVEN, RoundingMode.UNNECESSARY,
    };

    private final BigDecimal[] registers = new BigDecimal[6];
    private String text = "";

    Model() {
        for (int k = 0; k < 6; k++) {
            registers[k] = BigDecimal.ZERO;
        }
    }

    private static boolean no(int... ks) {
        for (int k : ks) {
            if (k < 0 || k > 5) {
                return true;
            }
        }
        return false;
    }

    private static boolean noWay(int way) {
        return way < 0 || way > 7;
    }

    private static boolean noScale(int scale) {
        return scale < -6 || scale > 6;
    }

    private static boolean fits(BigDecimal d) {
        return d.precision() <= 190 && !noScale(d.scale());
    }

    private int keep(int k, BigDecimal d) {
        if (!fits(d)) {
            return FULL;
        }
        registers[k] = d;
        return d.precision();
    }

    int load(int k, long v, int scale) {
        if (no(k)) {
            return REFUSED;
        }
        return keep(k, new BigDecimal(BigInteger.valueOf(v), scale)) == FULL ? FULL : 0;
    }

    int push(int k, long v) {
        if (no(k)) {
            return REFUSED;
        }
        BigDecimal d = registers[k];
        BigInteger low = BigInteger.valueOf(v).abs().mod(TEN_18);
        BigInteger digits = d.unscaledValue().abs().multiply(TEN_18).add(low);
        return keep(k, new BigDecimal(d.signum() < 0 ? digits.negate() : digits, d.scale()));
    }

    int reckon(int op, int k, int i, int j) {
        if (no(k, i, j) || op < 0 || op > 4) {
            return REFUSED;
        }
        BigDecimal a = registers[i];
        BigDecimal b = registers[j];
        switch (op) {
            case 0: return keep(k, a.add(b));
            case 1: return keep(k, a.subtract(b));
            case 2: return keep(k, a.multiply(b));
            case 3: return keep(k, a.compareTo(b) >= 0 ? a : b);
            default: return keep(k, a.compareTo(b) <= 0 ? a : b);
        }
    }

    int divide(int k, int i, int j, int scale, int way) {
        if (no(k, i, j) || noWay(way)) {
            return REFUSED;
        }
        if (registers[j].signum() == 0) {
            return NONE;
        }
        if (noScale(scale)) {
            return FULL;
        }
        try {
            return keep(k, registers[i].divide(registers[j], scale, WAYS[way]));
        } catch (ArithmeticException e) {
            return INEXACT;
        }
    }

    int part(int q, int r, int i, int j) {
        if (no(q, r, i, j) || q == r) {
            return REFUSED;
        }
        BigDecimal a = registers[i];
        BigDecimal b = registers[j];
        if (b.signum() == 0) {
            return NONE;
        }
        BigDecimal whole = a.divide(b, 0, RoundingMode.DOWN);
        BigDecimal left = a.subtract(whole.multiply(b));
        if (!fits(whole) || !fits(left)) {
            return FULL;
        }
        keep(r, left);
        return keep(q, whole);
    }

    int scale(int k, int i, int scale, int way) {
        if (no(k, i) || noWay(way)) {
            return REFUSED;
        }
        if (noScale(scale)) {
            return FULL;
        }
        try {
            return keep(k, registers[i].setScale(scale, WAYS[way]));
        } catch (ArithmeticException e) {
            return INEXACT;
        }
    }

    int round(int k, int i, int precision, int way) {
        if (no(k, i) || noWay(way) || precision < 1 || registers[i].precision() - precision > 18) {
            return REFUSED;
        }
        BigDecimal d = registers[i];
        try {
            while (d.precision() > precision) {
                d = d.setScale(d.scale() - (d.precision() - precision), WAYS[way]);
            }
            return keep(k, d);
        } catch (ArithmeticException e) {
            return INEXACT;
        }
    }

    int turn(int op, int k, int i) {
        if (no(k, i) || op < 0 || op > 2) {
            return REFUSED;
        }
        BigDecimal d = registers[i];
        if (op < 2) {
            return keep(k, op == 0 ? d.abs() : d.negate());
        }
        return keep(k, d.signum() == 0 ? BigDecimal.ZERO : d.stripTrailingZeros());
    }

    int move(int op, int k, int i, int n) {
        if (no(k, i) || op < 0 || op > 1 || n < -12 || n > 12) {
            return REFUSED;
        }
        BigDecimal d = registers[i].scaleByPowerOfTen(n);
        return keep(k, op == 1 && d.scale() < 0 ? d.setScale(0) : d);
    }

    int power(int k, int i, int n) {
        if (no(k, i) || n < 0 || n > 40) {
            return REFUSED;
        }
        BigDecimal d = registers[i];
        if (n * d.precision() > 190) {
            return FULL;
        }
        return keep(k, new BigDecimal(d.unscaledValue().pow(n), n * d.scale()));
    }

    int compare(int i, int j) {
        return no(i, j) ? -2 : registers[i].compareTo(registers[j]);
    }

    boolean same(int i, int j) {
        return !no(i, j) && registers[i].equals(registers[j]);
    }

    int look(int what, int i) {
        if (no(i)) {
            return what == 2 ? 1000 : REFUSED;
        }
        switch (what) {
            case 0: return registers[i].signum();
            case 1: return registers[i].precision();
            case 2: return registers[i].scale();
            default: return REFUSED;
        }
    }

    int digit(int i, int n) {
        if (no(i) || n < 0) {
            return -1;
        }
        String digits = registers[i].unscaledValue().abs().toString();
        return n < digits.length() ? digits.charAt(digits.length() - 1 - n) - '0' : -1;
    }

    long whole(int i) {
        return no(i) ? 0 : registers[i].toBigInteger().longValue();
    }

    int write(int i) {
        if (no(i)) {
            return REFUSED;
        }
        text = registers[i].toPlainString();
        return text.length();
    }

    int octet(int k) {
        return k >= 0 && k < text.length() ? text.charAt(k) : -1;
    }

    /** Register k becomes "digits/scale". */
    void fill(int k, String decimal) {
        int slash = decimal.indexOf('/');
        BigInteger digits = new BigInteger(decimal.substring(0, slash));
        registers[k] = new BigDecimal(digits, Integer.parseInt(decimal.substring(slash + 1)));
    }

    String held(int i) {
        return registers[i].unscaledValue() + "/" + registers[i].scale();
    }
}
