/**
 * Six registers that hold decimals of up to 190 digits.
 *
 * <p>Every row of limbs is made with the object and used again by each call, so that a call makes
 * no object at all. A call reckons in {@link #result} first; a register changes only when the
 * outcome is known to be kept.
 */
public final class DecimalRegisters {

    public static final int REFUSED = -1, NONE = -2, FULL = -3, INEXACT = -4;

    private static final int REGISTERS = 6;
    private static final int MOST_DIGITS = 190;
    private static final int MOST_SCALE = 6;
    private static final int PUSHED_PLACES = 18;
    private static final long PUSHED_BOUND = 1_000_000_000_000_000_000L;
    private static final int MOST_PLACES_ROUNDED_OFF = 18;
    private static final int MOST_PLACES_MOVED = 12;
    private static final int MOST_POWER = 40;
    private static final int NO_ORDER = -2;
    private static final int NO_SCALE = 1000;
    private static final int NO_SIGN = -1;
    /** A minus, 190 digits and six 0s behind them are the longest text. */
    private static final int TEXT_ROOM = 200;

    private static final int AWAY_FROM_ZERO = 0;
    private static final int TO_ZERO = 1;
    private static final int UP = 2;
    private static final int DOWN = 3;
    private static final int HALF_AWAY_FROM_ZERO = 4;
    private static final int HALF_TO_ZERO = 5;
    private static final int HALF_TO_EVEN = 6;
    private static final int NOT_AT_ALL = 7;

    private final Decimal[] registers;
    private final Decimal result;
    private final Decimal one;
    private final Natural top;
    private final Natural bottom;
    private final char[] text;
    private int textLength;

    public DecimalRegisters() {
        registers = new Decimal[REGISTERS];
        for (int k = 0; k < REGISTERS; k++) {
            registers[k] = new Decimal();
        }
        result = new Decimal();
        one = new Decimal();
        one.digits.becomeSizeOf(1);
        top = new Natural();
        bottom = new Natural();
        text = new char[TEXT_ROOM];
        textLength = 0;
    }

    public int load(int k, long v, int scale) {
        if (!isRegister(k)) {
            return REFUSED;
        }
        result.digits.becomeSizeOf(v);
        result.minus = v < 0;
        result.scale = scale;
        return keep(k) == FULL ? FULL : 0;
    }

    public int push(int k, long v) {
        if (!isRegister(k)) {
            return REFUSED;
        }
        result.become(registers[k]);
        result.digits.raise(PUSHED_PLACES);
        top.becomeSizeOf(v % PUSHED_BOUND);
        result.digits.add(top);
        return keep(k);
    }

    public int reckon(int op, int k, int i, int j) {
        if (!isRegister(k) || !isRegister(i) || !isRegister(j)) {
            return REFUSED;
        }
        Decimal a = registers[i];
        Decimal b = registers[j];
        switch (op) {
            case 0:
                addUp(a, b, b.minus);
                break;
            case 1:
                addUp(a, b, !b.minus);
                break;
            case 2:
                multiply(a, b);
                break;
            case 3:
                result.become(order(a, b) >= 0 ? a : b);
                break;
            case 4:
                result.become(order(a, b) <= 0 ? a : b);
                break;
            default:
                return REFUSED;
        }
        return keep(k);
    }

    public int divide(int k, int i, int j, int scale, int way) {
        if (!isRegister(k) || !isRegister(i) || !isRegister(j) || !isWay(way)) {
            return REFUSED;
        }
        if (registers[j].digits.isZero()) {
            return NONE;
        }
        return keepQuotient(k, registers[i], registers[j], scale, way);
    }

    public int part(int q, int r, int i, int j) {
        if (!isRegister(q) || !isRegister(r) || !isRegister(i) || !isRegister(j) || q == r) {
            return REFUSED;
        }
        Decimal a = registers[i];
        Decimal b = registers[j];
        if (b.digits.isZero()) {
            return NONE;
        }
        // Registers q and r may be i and j, so what r needs of them is read before q is kept.
        boolean minus = a.minus;
        int scale = Math.max(a.scale, b.scale);
        split(a, b, 0);
        int answer = keep(q);
        if (answer != FULL) {
            // What is left is no greater than i and less than j, and one of the two has this
            // scale already: it is never too long to be kept.
            registers[r].take(top, minus, scale);
        }
        return answer;
    }

    public int scale(int k, int i, int scale, int way) {
        if (!isRegister(k) || !isRegister(i) || !isWay(way)) {
            return REFUSED;
        }
        return keepQuotient(k, registers[i], one, scale, way);
    }

    public int round(int k, int i, int precision, int way) {
        if (!isRegister(k) || !isRegister(i) || !isWay(way) || precision < 1) {
            return REFUSED;
        }
        Decimal a = registers[i];
        int off = a.digits.precision() - precision;
        if (off > MOST_PLACES_ROUNDED_OFF) {
            return REFUSED;
        }
        result.become(a);
        if (off > 0) {
            cutOff(off);
            if (!settle(way)) {
                return INEXACT;
            }
            if (result.digits.precision() > precision) {
                // A carry has left a 1 with 0s alone, so that this cut needs no rounding.
                cutOff(1);
            }
        }
        return keep(k);
    }

    public int turn(int op, int k, int i) {
        if (!isRegister(k) || !isRegister(i)) {
            return REFUSED;
        }
        result.become(registers[i]);
        switch (op) {
            case 0:
                result.minus = false;
                break;
            case 1:
                result.minus = !result.minus;
                break;
            case 2:
                cutOffZeros();
                break;
            default:
                return REFUSED;
        }
        return keep(k);
    }

    public int move(int op, int k, int i, int n) {
        if (!isRegister(k) || !isRegister(i) || op < 0 || op > 1) {
            return REFUSED;
        }
        if (n < -MOST_PLACES_MOVED || n > MOST_PLACES_MOVED) {
            return REFUSED;
        }
        result.become(registers[i]);
        result.scale -= n;
        if (op == 1 && result.scale < 0) {
            result.digits.raise(-result.scale);
            result.scale = 0;
        }
        return keep(k);
    }

    public int power(int k, int i, int n) {
        if (!isRegister(k) || !isRegister(i) || n < 0 || n > MOST_POWER) {
            return REFUSED;
        }
        Decimal a = registers[i];
        if (n * a.digits.precision() > MOST_DIGITS) {
            return FULL;
        }
        result.become(one);
        for (int times = 0; times < n; times++) {
            multiply(result, a);
        }
        return keep(k);
    }

    public int compare(int i, int j) {
        if (!isRegister(i) || !isRegister(j)) {
            return NO_ORDER;
        }
        return order(registers[i], registers[j]);
    }

    public boolean same(int i, int j) {
        if (!isRegister(i) || !isRegister(j)) {
            return false;
        }
        Decimal a = registers[i];
        Decimal b = registers[j];
        return a.scale == b.scale && a.minus == b.minus && a.digits.order(b.digits) == 0;
    }

    public int look(int what, int i) {
        if (!isRegister(i)) {
            return what == 2 ? NO_SCALE : REFUSED;
        }
        switch (what) {
            case 0:
                return registers[i].sign();
            case 1:
                return registers[i].digits.precision();
            case 2:
                return registers[i].scale;
            default:
                return REFUSED;
        }
    }

    public int digit(int i, int n) {
        if (!isRegister(i) || n < 0 || n >= registers[i].digits.precision()) {
            return NO_SIGN;
        }
        return registers[i].digits.figure(n);
    }

    public long whole(int i) {
        if (!isRegister(i)) {
            return 0;
        }
        split(registers[i], one, 0);
        long size = result.digits.lowestBits();
        return result.minus ? -size : size;
    }

    public int write(int i) {
        if (!isRegister(i)) {
            return REFUSED;
        }
        Decimal a = registers[i];
        textLength = 0;
        if (a.minus) {
            append('-');
        }
        appendFigures(a);
        if (!a.digits.isZero()) {
            appendZeros(-a.scale);
        }
        return textLength;
    }

    public int octet(int k) {
        return k >= 0 && k < textLength ? text[k] : NO_SIGN;
    }

    private static boolean isRegister(int k) {
        return k >= 0 && k < REGISTERS;
    }

    private static boolean isWay(int way) {
        return way >= AWAY_FROM_ZERO && way <= NOT_AT_ALL;
    }

    private static boolean isScale(int scale) {
        return scale >= -MOST_SCALE && scale <= MOST_SCALE;
    }

    /** Register k becomes the result, if it is one that is kept: its precision, or FULL. */
    private int keep(int k) {
        int precision = result.digits.precision();
        if (precision > MOST_DIGITS || !isScale(result.scale)) {
            return FULL;
        }
        registers[k].become(result);
        return precision;
    }

    private int keepQuotient(int k, Decimal a, Decimal b, int scale, int way) {
        if (!isScale(scale)) {
            return FULL;
        }
        split(a, b, scale);
        return settle(way) ? keep(k) : INEXACT;
    }

    /**
     * Brings the digits of a (in the top row) and of b (in the bottom row) to where their quotient
     * as whole numbers is a / b with a scale; with scale 0 both then have the greater scale of the
     * two, and can be added or held against each other.
     */
    private void align(Decimal a, Decimal b, int scale) {
        int places = scale + b.scale - a.scale;
        top.become(a.digits);
        bottom.become(b.digits);
        if (places > 0) {
            top.raise(places);
        } else {
            bottom.raise(-places);
        }
    }

    /** The result becomes a / b cut to a scale; the top row keeps what is left. */
    private void split(Decimal a, Decimal b, int scale) {
        align(a, b, scale);
        top.takeOut(bottom, result.digits);
        result.minus = a.minus != b.minus;
        result.scale = scale;
    }

    /** Rounds what split has cut; false if it is not to be rounded but would have to be. */
    private boolean settle(int way) {
        if (top.isZero()) {
            return true;
        }
        if (way == NOT_AT_ALL) {
            return false;
        }
        top.add(top);
        if (isAwayFromZero(way, top.order(bottom))) {
            result.digits.add(one.digits);
        }
        return true;
    }

    /** Whether the neighbour farther from 0 is taken; half is the order of what was cut off and a half. */
    private boolean isAwayFromZero(int way, int half) {
        switch (way) {
            case AWAY_FROM_ZERO:
                return true;
            case TO_ZERO:
                return false;
            case UP:
                return !result.minus;
            case DOWN:
                return result.minus;
            case HALF_AWAY_FROM_ZERO:
                return half >= 0;
            case HALF_TO_ZERO:
                return half > 0;
            case HALF_TO_EVEN:
                return half > 0 || half == 0 && result.digits.figure(0) % 2 == 1;
            default:
                return false;
        }
    }

    /** Cuts the result's last digits off; the top row keeps them for settle. */
    private void cutOff(int places) {
        split(result, one, result.scale - places);
    }

    private void cutOffZeros() {
        if (result.digits.isZero()) {
            result.scale = 0;
        } else {
            cutOff(result.digits.zerosAtEnd());
        }
    }

    /** The result becomes a + b, with the sign that is given for b, so that a - b is one too. */
    private void addUp(Decimal a, Decimal b, boolean minusOfB) {
        int scale = Math.max(a.scale, b.scale);
        align(a, b, 0);
        if (a.minus == minusOfB) {
            top.add(bottom);
            result.take(top, a.minus, scale);
        } else if (top.order(bottom) >= 0) {
            top.subtract(bottom);
            result.take(top, a.minus, scale);
        } else {
            bottom.subtract(top);
            result.take(bottom, minusOfB, scale);
        }
    }

    /** The result becomes a * b; a may be the result itself. */
    private void multiply(Decimal a, Decimal b) {
        top.becomeProduct(a.digits, b.digits);
        result.take(top, a.minus != b.minus, a.scale + b.scale);
    }

    private int order(Decimal a, Decimal b) {
        if (a.sign() != b.sign()) {
            return a.sign() < b.sign() ? -1 : 1;
        }
        align(a, b, 0);
        return a.minus ? bottom.order(top) : top.order(bottom);
    }

    /** A scale above the digits' number asks for 0s in front, which figure gives by itself. */
    private void appendFigures(Decimal a) {
        for (int n = Math.max(a.digits.precision() - 1, a.scale); n >= 0; n--) {
            append((char) ('0' + a.digits.figure(n)));
            if (n > 0 && n == a.scale) {
                append('.');
            }
        }
    }

    private void appendZeros(int count) {
        for (int n = 0; n < count; n++) {
            append('0');
        }
    }

    private void append(char c) {
        if (textLength < TEXT_ROOM) {
            text[textLength] = c;
            textLength++;
        }
    }

    /** Digits with a sign and a scale; a 0 is never minus, or a push on it would be, too. */
    private static final class Decimal {
        final Natural digits = new Natural();
        boolean minus;
        int scale;

        void become(Decimal other) {
            take(other.digits, other.minus, other.scale);
        }

        void take(Natural newDigits, boolean newMinus, int newScale) {
            digits.become(newDigits);
            minus = newMinus && !newDigits.isZero();
            scale = newScale;
        }

        int sign() {
            if (digits.isZero()) {
                return 0;
            }
            return minus ? -1 : 1;
        }
    }

    /**
     * A whole number without sign, in limbs of six digits, the lowest first. Six, since three limbs
     * fit in a long then, which is what takeOut needs for a guess that is never far off.
     *
     * <p>The limbs at and above the size are 0, and the one below it is not; 0 has the size 0.
     */
    private static final class Natural {
        /** A product of two registers of 32 limbs is the longest number. */
        private static final int LIMBS = 64;
        private static final int PLACES = 6;
        private static final long BASE = 1_000_000L;
        private static final long[] TENS = {1L, 10L, 100L, 1_000L, 10_000L, 100_000L};

        final long[] limbs = new long[LIMBS];
        int size;

        boolean isZero() {
            return size == 0;
        }

        void become(Natural other) {
            System.arraycopy(other.limbs, 0, limbs, 0, LIMBS);
            size = other.size;
        }

        /** Takes each limb's size by itself, since the least long has no opposite. */
        void becomeSizeOf(long v) {
            clear();
            long rest = v;
            for (int n = 0; n < LIMBS && rest != 0; n++) {
                limbs[n] = Math.abs(rest % BASE);
                rest /= BASE;
                size = n + 1;
            }
        }

        void clear() {
            for (int n = 0; n < size; n++) {
                limbs[n] = 0;
            }
            size = 0;
        }

        int precision() {
            int places = size * PLACES;
            while (places > 1 && figure(places - 1) == 0) {
                places--;
            }
            return Math.max(places, 1);
        }

        /** The digit at a place, 0 in front of the first one. */
        int figure(int place) {
            int n = place / PLACES;
            if (place < 0 || n >= size) {
                return 0;
            }
            return (int) (limbs[n] / TENS[place % PLACES] % 10);
        }

        int zerosAtEnd() {
            int places = size * PLACES;
            int zeros = 0;
            while (zeros < places && figure(zeros) == 0) {
                zeros++;
            }
            return zeros;
        }

        /** Wraps around at 64 bits, as a cut to the lowest ones does. */
        long lowestBits() {
            long bits = 0;
            for (int n = size - 1; n >= 0; n--) {
                bits = bits * BASE + limbs[n];
            }
            return bits;
        }

        int order(Natural other) {
            if (size != other.size) {
                return size < other.size ? -1 : 1;
            }
            for (int n = size - 1; n >= 0; n--) {
                if (limbs[n] != other.limbs[n]) {
                    return limbs[n] < other.limbs[n] ? -1 : 1;
                }
            }
            return 0;
        }

        /** The other one may be this number itself. */
        void add(Natural other) {
            int most = Math.max(size, other.size);
            long carry = 0;
            for (int n = 0; n < most; n++) {
                long limb = limbs[n] + other.limbs[n] + carry;
                limbs[n] = limb % BASE;
                carry = limb / BASE;
            }
            close(most, carry);
        }

        /** The other one is no greater than this one. */
        void subtract(Natural other) {
            long borrow = 0;
            for (int n = 0; n < size; n++) {
                long limb = limbs[n] - other.limbs[n] - borrow;
                borrow = limb < 0 ? 1 : 0;
                limbs[n] = limb + borrow * BASE;
            }
            shrink();
        }

        /** Neither factor may be this number itself. */
        void becomeProduct(Natural a, Natural b) {
            clear();
            if (a.size + b.size > LIMBS) {
                return;
            }
            for (int n = 0; n < a.size; n++) {
                long carry = 0;
                for (int m = 0; m < b.size; m++) {
                    long limb = limbs[n + m] + a.limbs[n] * b.limbs[m] + carry;
                    limbs[n + m] = limb % BASE;
                    carry = limb / BASE;
                }
                limbs[n + b.size] = carry;
            }
            size = a.size + b.size;
            shrink();
        }

        /** Times 10^places. */
        void raise(int places) {
            int far = places / PLACES;
            if (size == 0 || places <= 0 || size + far >= LIMBS) {
                return;
            }
            long factor = TENS[places % PLACES];
            long carry = 0;
            for (int n = 0; n < size; n++) {
                long limb = limbs[n] * factor + carry;
                limbs[n] = limb % BASE;
                carry = limb / BASE;
            }
            close(size, carry);
            shift(far);
        }

        private void shift(int far) {
            for (int n = size - 1; n >= 0; n--) {
                limbs[n + far] = limbs[n];
            }
            for (int n = 0; n < far; n++) {
                limbs[n] = 0;
            }
            size += far;
        }

        /** The quotient becomes how often the divisor goes into this; this becomes what is left. */
        void takeOut(Natural divisor, Natural quotient) {
            quotient.clear();
            if (divisor.size == 0 || size < divisor.size || size >= LIMBS) {
                return;
            }
            int first = size - divisor.size;
            for (int at = first; at >= 0; at--) {
                long times = guess(divisor, at);
                takeAway(divisor, times, at);
                if (limbs[at + divisor.size] < 0) {
                    takeAway(divisor, -1, at);
                    times--;
                }
                quotient.limbs[at] = times;
            }
            quotient.size = first + 1;
            quotient.shrink();
            shrink();
        }

        /**
         * How often the divisor goes into the limbs from a place on, or once more. The divisor's two
         * highest limbs are enough for that: as a number they are BASE or more, while the answer is
         * below BASE, so that its lower limbs make a difference of less than 1.
         */
        private long guess(Natural divisor, int at) {
            int last = divisor.size - 1;
            long high = (limbs[at + last + 1] * BASE + limbs[at + last]) * BASE;
            long low = divisor.limbs[last] * BASE;
            if (last > 0) {
                high += limbs[at + last - 1];
                low += divisor.limbs[last - 1];
            }
            return low == 0 ? 0 : high / low;
        }

        /** Takes the other one away some times at a place; the limb above it may go below 0. */
        private void takeAway(Natural other, long times, int at) {
            long carry = 0;
            for (int n = 0; n < other.size; n++) {
                long limb = limbs[at + n] - times * other.limbs[n] + carry;
                carry = Math.floorDiv(limb, BASE);
                limbs[at + n] = limb - carry * BASE;
            }
            limbs[at + other.size] += carry;
        }

        private void close(int used, long carry) {
            size = used;
            if (carry != 0 && used < LIMBS) {
                limbs[used] = carry;
                size = used + 1;
            }
        }

        private void shrink() {
            while (size > 0 && limbs[size - 1] == 0) {
                size--;
            }
        }
    }
}
