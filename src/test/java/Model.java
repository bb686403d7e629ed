import java.math.BigInteger;
import java.util.Arrays;
import java.util.NoSuchElementException;

/**
 * The document, word for word and without thought of speed, over BigInteger: what TrueFloats is compared with.
 * It shares no code and no way of reckoning with the class.
 */
final class Model {
    static final int NAN = 0;
    static final int INFINITY = 1;
    static final int ZERO = 2;
    static final int NUMBER = 3;

    /** A float: a number is m * 2^e. */
    static final class Value {
        final int kind;
        final boolean negative;
        final BigInteger m;
        final int e;

        Value(int kind, boolean negative, BigInteger m, int e) {
            this.kind = kind;
            this.negative = negative;
            this.m = m;
            this.e = e;
        }

        int exponent() {
            return m.bitLength() + e;
        }
    }

    static final Value NOT_A_NUMBER = new Value(NAN, false, null, 0);

    static Value infinity(boolean negative) {
        return new Value(INFINITY, negative, null, 0);
    }

    static Value zero(boolean negative) {
        return new Value(ZERO, negative, null, 0);
    }

    static Value number(boolean negative, BigInteger m, int e) {
        return new Value(NUMBER, negative, m, e);
    }

    /** The absolute value of a real number, of which only this is asked: how it compares with k * 2^u. */
    interface Size {
        int beside(BigInteger k, int u);

        /** Some integer that the base-2 exponent is near to. */
        int exponentGuess();

        /** Some integer that x / 2^u is near to. */
        BigInteger multipleGuess(int u);
    }

    static BigInteger shift(BigInteger k, int u) {
        return u >= 0 ? k.shiftLeft(u) : k;
    }

    /** a / b * 2^e. */
    static Size ratio(BigInteger a, BigInteger b, int e) {
        return new Size() {
            @Override
            public int beside(BigInteger k, int u) {
                return shift(a, e - u).compareTo(shift(k.multiply(b), u - e));
            }

            @Override
            public int exponentGuess() {
                return a.bitLength() - b.bitLength() + e;
            }

            @Override
            public BigInteger multipleGuess(int u) {
                return shift(a, e - u).divide(shift(b, u - e));
            }
        };
    }

    /** The n-th root of s * 2^e. */
    static Size rootOf(BigInteger s, int e, int n) {
        return new Size() {
            @Override
            public int beside(BigInteger k, int u) {
                int v = u * n;
                return shift(s, e - v).compareTo(shift(k.pow(n), v - e));
            }

            @Override
            public int exponentGuess() {
                return Math.floorDiv(s.bitLength() + e, n);
            }

            @Override
            public BigInteger multipleGuess(int u) {
                BigInteger whole = e - u * n >= 0 ? s.shiftLeft(e - u * n) : s.shiftRight(u * n - e);
                return integerRoot(whole, n);
            }
        };
    }

    static int exponentOf(Size x) {
        int guess = x.exponentGuess();
        while (x.beside(BigInteger.ONE, guess) >= 0) {
            guess++;
        }
        while (x.beside(BigInteger.ONE, guess - 1) < 0) {
            guess--;
        }
        return guess;
    }

    /** The integer part of the n-th root, by Newton's steps from above. */
    static BigInteger integerRoot(BigInteger s, int n) {
        if (s.signum() == 0) {
            return s;
        }
        BigInteger x = BigInteger.ONE.shiftLeft((s.bitLength() + n - 1) / n + 1);
        while (true) {
            BigInteger y = x.multiply(BigInteger.valueOf(n - 1)).add(s.divide(x.pow(n - 1))).divide(BigInteger.valueOf(n));
            if (y.compareTo(x) >= 0) {
                return x;
            }
            x = y;
        }
    }

    /** The greatest k for which k * 2^u is not above x. */
    static BigInteger floor(Size x, int u) {
        BigInteger k = x.multipleGuess(u);
        if (x.beside(k, u) < 0 || x.beside(k.add(BigInteger.ONE), u) >= 0) {
            throw new AssertionError("the model itself is wrong");
        }
        return k;
    }

    /** x rounded to a multiple of 2^u: which one. Mode 5 is the nearest, of two the one away from 0. */
    static BigInteger toMultiple(Size x, boolean negative, int u, int mode) {
        BigInteger k = floor(x, u);
        if (x.beside(k, u) == 0) {
            return k;
        }
        int half = x.beside(k.shiftLeft(1).add(BigInteger.ONE), u - 1);
        boolean outward;
        switch (mode) {
            case 0:
                outward = half > 0 || half == 0 && k.testBit(0);
                break;
            case 1:
                outward = false;
                break;
            case 2:
                outward = !negative;
                break;
            case 3:
                outward = negative;
                break;
            case 4:
                outward = true;
                break;
            default:
                outward = half >= 0;
                break;
        }
        return outward ? k.add(BigInteger.ONE) : k;
    }

    final Value[] held = new Value[16];
    final int[] bits = new int[16];
    int least = -16384;
    int greatest = 16384;
    boolean gradual = false;
    int flags = 0;
    byte[] tape = new byte[0];
    String out = "";

    Model() {
        Arrays.fill(held, NOT_A_NUMBER);
        Arrays.fill(bits, 64);
    }

    /** The ternary of the last rounding, its value having been put into rounded. */
    private Value rounded;

    private int roundTo(Size x, boolean negative, int p, int mode) {
        int exponent = exponentOf(x);
        boolean below = exponent < least;
        int unit = gradual && below ? least - p : exponent - p;
        BigInteger k = toMultiple(x, negative, unit, mode);
        boolean towardInfinity = mode == 4 || mode == 2 && !negative || mode == 3 && negative;
        if (k.signum() == 0) {
            rounded = zero(negative);
        } else if (k.bitLength() + unit > greatest) {
            flags |= 2;
            rounded = mode == 0 || towardInfinity ? infinity(negative) : greatestNumber(negative, p);
        } else if (!gradual && k.bitLength() + unit < least) {
            flags |= 4;
            boolean lift = towardInfinity || mode == 0 && x.beside(BigInteger.ONE, least - 2) > 0;
            rounded = lift ? number(negative, BigInteger.ONE, least - 1) : zero(negative);
        } else {
            rounded = number(negative, k, unit);
        }
        int order;
        if (rounded.kind == INFINITY) {
            order = 1;
        } else if (rounded.kind == ZERO) {
            order = -1;
        } else {
            order = -x.beside(rounded.m, rounded.e);
        }
        if (gradual && below && order != 0) {
            flags |= 4;
        }
        if (order != 0) {
            flags |= 1;
        }
        return negative ? -order : order;
    }

    private Value greatestNumber(boolean negative, int p) {
        return number(negative, BigInteger.ONE.shiftLeft(p).subtract(BigInteger.ONE), greatest - p);
    }

    private int into(int register, Size x, boolean negative, int mode) {
        int ternary = roundTo(x, negative, bits[register], mode);
        held[register] = rounded;
        return ternary;
    }

    private int into(int register, Value exact, int mode) {
        if (exact.kind != NUMBER) {
            held[register] = exact;
            return 0;
        }
        return into(register, ratio(exact.m, BigInteger.ONE, exact.e), exact.negative, mode);
    }

    private int invalid(int register) {
        flags |= 8;
        held[register] = NOT_A_NUMBER;
        return 0;
    }

    private static void check(boolean right) {
        if (!right) {
            throw new IllegalArgumentException();
        }
    }

    private static boolean among(int x, int low, int high) {
        return x >= low && x <= high;
    }

    private static void registers(int... all) {
        for (int register : all) {
            check(among(register, 0, 15));
        }
    }

    private static void mode(int mode) {
        check(among(mode, 0, 4));
    }

    long precision(int register, int p) {
        registers(register);
        check(among(p, 2, 4096));
        int old = bits[register];
        bits[register] = p;
        held[register] = NOT_A_NUMBER;
        return old;
    }

    long range(int low, int high, boolean slowly) {
        check(among(low, -16384, 16384) && among(high, -16384, 16384) && low <= high);
        int old = greatest;
        least = low;
        greatest = high;
        gradual = slowly;
        return old;
    }

    long flags(boolean take) {
        int old = flags;
        flags = take ? 0 : flags;
        return old;
    }

    long number(int register, long value, int scale, int mode) {
        registers(register);
        check(among(scale, -40000, 40000));
        mode(mode);
        if (value == 0) {
            return into(register, zero(false), mode);
        }
        return into(register, number(value < 0, BigInteger.valueOf(value).abs(), scale), mode);
    }

    long copy(int register, int a, int how, int mode) {
        registers(register, a);
        check(among(how, 0, 2));
        mode(mode);
        Value x = held[a];
        if (x.kind == NAN) {
            return into(register, x, mode);
        }
        boolean sign = how == 2 ? false : how == 1 ? !x.negative : x.negative;
        return into(register, new Value(x.kind, sign, x.m, x.e), mode);
    }

    long reckon(int operation, int register, int a, int b, int mode) {
        check(among(operation, 0, 6));
        registers(register, a, b);
        mode(mode);
        Value x = held[a];
        Value y = held[b];
        if (operation == 6) {
            return hypotenuse(register, x, y, mode);
        }
        if (x.kind == NAN || y.kind == NAN) {
            return into(register, NOT_A_NUMBER, mode);
        }
        boolean sign = x.negative != y.negative;
        switch (operation) {
            case 0:
                return add(register, mode, x, y);
            case 1:
                return add(register, mode, x, new Value(y.kind, !y.negative, y.m, y.e));
            case 2:
                Value product = times(x, y);
                return product.kind == NAN ? invalid(register) : into(register, product, mode);
            case 3:
                return divide(register, x, y, sign, mode);
            default:
                return remain(register, x, y, operation == 4, mode);
        }
    }

    /** NaN for what is invalid or NaN. */
    private static Value times(Value x, Value y) {
        boolean sign = x.negative != y.negative;
        if (x.kind == NAN || y.kind == NAN) {
            return NOT_A_NUMBER;
        }
        if (x.kind == INFINITY || y.kind == INFINITY) {
            return x.kind == ZERO || y.kind == ZERO ? NOT_A_NUMBER : infinity(sign);
        }
        if (x.kind == ZERO || y.kind == ZERO) {
            return zero(sign);
        }
        return number(sign, x.m.multiply(y.m), x.e + y.e);
    }

    private int divide(int register, Value x, Value y, boolean sign, int mode) {
        if (x.kind == ZERO && y.kind == ZERO || x.kind == INFINITY && y.kind == INFINITY) {
            return invalid(register);
        }
        if (y.kind == ZERO || x.kind == INFINITY) {
            flags |= x.kind == NUMBER ? 16 : 0;
            return into(register, infinity(sign), mode);
        }
        if (y.kind == INFINITY || x.kind == ZERO) {
            return into(register, zero(sign), mode);
        }
        return into(register, ratio(x.m, y.m, x.e - y.e), sign, mode);
    }

    private int remain(int register, Value x, Value y, boolean nearest, int mode) {
        if (x.kind == INFINITY || y.kind == ZERO) {
            return invalid(register);
        }
        if (x.kind == ZERO || y.kind == INFINITY) {
            return into(register, x, mode);
        }
        BigInteger n = toMultiple(ratio(x.m, y.m, x.e - y.e), false, 0, nearest ? 0 : 1);
        int low = Math.min(x.e, y.e);
        BigInteger rest = x.m.shiftLeft(x.e - low).subtract(n.multiply(y.m.shiftLeft(y.e - low)));
        if (rest.signum() == 0) {
            return into(register, zero(x.negative), mode);
        }
        return into(register, number(x.negative != rest.signum() < 0, rest.abs(), low), mode);
    }

    private int hypotenuse(int register, Value x, Value y, int mode) {
        if (x.kind == INFINITY || y.kind == INFINITY) {
            return into(register, infinity(false), mode);
        }
        if (x.kind == NAN || y.kind == NAN) {
            return into(register, NOT_A_NUMBER, mode);
        }
        if (x.kind == ZERO && y.kind == ZERO) {
            return into(register, zero(false), mode);
        }
        if (x.kind == ZERO || y.kind == ZERO) {
            Value other = x.kind == ZERO ? y : x;
            return into(register, number(false, other.m, other.e), mode);
        }
        int low = 2 * Math.min(x.e, y.e);
        BigInteger squares = x.m.multiply(x.m).shiftLeft(2 * x.e - low).add(y.m.multiply(y.m).shiftLeft(2 * y.e - low));
        return into(register, rootOf(squares, low, 2), false, mode);
    }

    /** The values are no NaN. */
    private int add(int register, int mode, Value... all) {
        boolean up = false;
        boolean down = false;
        boolean plus = false;
        boolean minus = false;
        boolean numbers = false;
        int low = 0;
        for (Value x : all) {
            up |= x.kind == INFINITY && !x.negative;
            down |= x.kind == INFINITY && x.negative;
            plus |= x.kind == ZERO && !x.negative;
            minus |= x.kind == ZERO && x.negative;
            numbers |= x.kind == NUMBER;
            low = x.kind == NUMBER ? Math.min(low, x.e) : low;
        }
        if (up && down) {
            return invalid(register);
        }
        if (up || down) {
            return into(register, infinity(down), mode);
        }
        BigInteger total = BigInteger.ZERO;
        for (Value x : all) {
            if (x.kind == NUMBER) {
                BigInteger m = x.m.shiftLeft(x.e - low);
                total = x.negative ? total.subtract(m) : total.add(m);
            }
        }
        if (total.signum() != 0) {
            return into(register, number(total.signum() < 0, total.abs(), low), mode);
        }
        boolean sign = mode == 3;
        if (!numbers && !(plus && minus)) {
            sign = minus;
        }
        return into(register, zero(sign), mode);
    }

    /** A sum in which NaNs may be: an operand that is NaN counts before what is invalid. */
    private int addAll(int register, int mode, boolean anyNan, Value... all) {
        if (anyNan) {
            return into(register, NOT_A_NUMBER, mode);
        }
        for (Value x : all) {
            if (x.kind == NAN) {
                return invalid(register);
            }
        }
        return add(register, mode, all);
    }

    long fused(int register, int a, int b, int c, int mode) {
        registers(register, a, b, c);
        mode(mode);
        boolean anyNan = held[a].kind == NAN || held[b].kind == NAN || held[c].kind == NAN;
        return addAll(register, mode, anyNan, times(held[a], held[b]), held[c]);
    }

    long root(int register, int a, int n, int mode) {
        registers(register, a);
        check(among(n, 1, 32));
        mode(mode);
        Value x = held[a];
        if (x.kind == NAN || x.kind == ZERO) {
            return into(register, x, mode);
        }
        if (n % 2 == 0 && x.negative) {
            return invalid(register);
        }
        if (x.kind == INFINITY) {
            return into(register, x, mode);
        }
        return into(register, rootOf(x.m, x.e, n), x.negative, mode);
    }

    long power(int register, int a, int n, int mode) {
        registers(register, a);
        check(among(n, -32, 32));
        mode(mode);
        Value x = held[a];
        boolean sign = x.negative && n % 2 != 0;
        if (n == 0) {
            return into(register, number(false, BigInteger.ONE, 0), mode);
        }
        if (x.kind == NAN) {
            return into(register, x, mode);
        }
        if (x.kind != NUMBER) {
            if (x.kind == ZERO && n < 0) {
                flags |= 16;
            }
            boolean infinite = n > 0 ? x.kind == INFINITY : x.kind == ZERO;
            return into(register, infinite ? infinity(sign) : zero(sign), mode);
        }
        if (n > 0) {
            return into(register, number(sign, x.m.pow(n), x.e * n), mode);
        }
        return into(register, ratio(BigInteger.ONE, x.m.pow(-n), x.e * n), sign, mode);
    }

    long whole(int register, int a, int way, int mode) {
        registers(register, a);
        check(among(way, 0, 4));
        mode(mode);
        Value x = held[a];
        if (x.kind != NUMBER) {
            return into(register, x, mode);
        }
        BigInteger k = toMultiple(ratio(x.m, BigInteger.ONE, x.e), x.negative, 0, way == 4 ? 5 : way);
        int inexact = flags & 1;
        into(register, k.signum() == 0 ? zero(x.negative) : number(x.negative, k, 0), mode);
        int ternary = order(held[register], x);
        flags = flags & ~1 | inexact | (ternary == 0 ? 0 : 1);
        return ternary;
    }

    long sum(int register, int first, int n, int mode) {
        registers(register, first);
        check(among(n, 1, 16) && first + n - 1 <= 15);
        mode(mode);
        Value[] all = new Value[n];
        boolean anyNan = false;
        for (int i = 0; i < n; i++) {
            all[i] = held[first + i];
            anyNan |= all[i].kind == NAN;
        }
        return addAll(register, mode, anyNan, all);
    }

    long dot(int register, int first, int second, int n, int mode) {
        registers(register, first, second);
        check(among(n, 1, 16) && first + n - 1 <= 15 && second + n - 1 <= 15);
        mode(mode);
        Value[] all = new Value[n];
        boolean anyNan = false;
        for (int i = 0; i < n; i++) {
            anyNan |= held[first + i].kind == NAN || held[second + i].kind == NAN;
            all[i] = times(held[first + i], held[second + i]);
        }
        return addAll(register, mode, anyNan, all);
    }

    long neighbour(int register, boolean up) {
        registers(register);
        Value x = held[register];
        if (x.kind == NAN || x.kind == INFINITY && x.negative != up) {
            return x.kind;
        }
        // Going down is going up on the other side of 0.
        Value y = up ? x : flipped(x);
        y = above(y, bits[register]);
        held[register] = up ? y : flipped(y);
        return held[register].kind;
    }

    private static Value flipped(Value x) {
        return new Value(x.kind, !x.negative, x.m, x.e);
    }

    /** The least float in the range that is greater than x, which is no NaN and not the positive infinity. */
    private Value above(Value x, int p) {
        int lowest = gradual ? least - p : least - 1;
        if (x.kind == ZERO) {
            return number(false, BigInteger.ONE, lowest);
        }
        if (x.kind == INFINITY) {
            return greatestNumber(true, p);
        }
        if (!x.negative) {
            int unit = Math.max(x.exponent(), least) - p;
            BigInteger k = floor(ratio(x.m, BigInteger.ONE, x.e), unit).add(BigInteger.ONE);
            if (!gradual && x.exponent() < least) {
                return number(false, BigInteger.ONE, lowest);
            }
            return k.bitLength() + unit > greatest ? infinity(false) : number(false, k, unit);
        }
        Value most = greatestNumber(true, p);
        if (order(x, most) < 0) {
            return most;
        }
        // Every multiple of 2^unit below x that is fine enough for all exponents about x.
        int unit = Math.max(x.exponent() - 1, gradual ? least : -100000) - p;
        BigInteger k = floor(ratio(x.m, BigInteger.ONE, x.e), unit);
        if (ratio(x.m, BigInteger.ONE, x.e).beside(k, unit) == 0) {
            k = k.subtract(BigInteger.ONE);
        }
        if (k.bitLength() > p) {
            k = k.shiftRight(1).shiftLeft(1);
        }
        if (k.signum() == 0 || !gradual && k.bitLength() + unit < least) {
            return zero(true);
        }
        return number(true, k, unit);
    }

    /** The order of two floats, neither of them NaN. */
    private static int order(Value x, Value y) {
        int left = x.kind == ZERO ? 0 : x.negative ? -1 : 1;
        int right = y.kind == ZERO ? 0 : y.negative ? -1 : 1;
        if (left != right || left == 0) {
            return Integer.compare(left, right);
        }
        if (x.kind == INFINITY || y.kind == INFINITY) {
            return left * Boolean.compare(x.kind == INFINITY, y.kind == INFINITY);
        }
        return left * ratio(x.m, BigInteger.ONE, x.e).beside(y.m, y.e);
    }

    long compare(int a, int b) {
        registers(a, b);
        if (held[a].kind == NAN || held[b].kind == NAN) {
            flags |= 32;
            throw new UnsupportedOperationException();
        }
        return order(held[a], held[b]);
    }

    long look(int register, int what) {
        registers(register);
        check(among(what, 0, 3));
        Value x = held[register];
        if (what == 2 && x.kind == NAN || what == 3 && x.kind != NUMBER) {
            throw new NoSuchElementException();
        }
        return what == 0 ? bits[register] : what == 1 ? x.kind : what == 2 ? (x.negative ? 1 : 0) : x.exponent();
    }

    long word(int register, int k) {
        registers(register);
        check(among(k, 0, 127));
        if (held[register].kind != NUMBER) {
            throw new NoSuchElementException();
        }
        return mantissa(register).shiftRight(32 * k).longValue() & 0xFFFFFFFFL;
    }

    BigInteger mantissa(int register) {
        Value x = held[register];
        return x.m.shiftLeft(bits[register] - x.m.bitLength());
    }

    long fromDouble(int register, long given, int mode) {
        registers(register);
        mode(mode);
        double x = Double.longBitsToDouble(given);
        if (Double.isNaN(x)) {
            return into(register, NOT_A_NUMBER, mode);
        }
        if (Double.isInfinite(x)) {
            return into(register, infinity(x < 0), mode);
        }
        if (x == 0) {
            return into(register, zero(given < 0), mode);
        }
        BigInteger m = new java.math.BigDecimal(Math.abs(x)).multiply(
            new java.math.BigDecimal(BigInteger.ONE.shiftLeft(1074))).toBigIntegerExact();
        return into(register, number(x < 0, m, -1074), mode);
    }

    long toDouble(int register, int mode) {
        registers(register);
        mode(mode);
        Value x = held[register];
        double answer;
        if (x.kind == NUMBER) {
            Model doubles = new Model();
            doubles.range(-1021, 1024, true);
            doubles.roundTo(ratio(x.m, BigInteger.ONE, x.e), x.negative, 53, mode);
            x = doubles.rounded;
        }
        if (x.kind == NAN) {
            return 9221120237041090560L;
        } else if (x.kind == INFINITY) {
            answer = Double.POSITIVE_INFINITY;
        } else if (x.kind == ZERO) {
            answer = 0;
        } else {
            answer = Math.scalb(Math.scalb(x.m.doubleValue(), x.e / 2), x.e - x.e / 2);
        }
        return Double.doubleToRawLongBits(x.negative ? -answer : answer);
    }

    long toLong(int register, int mode) {
        registers(register);
        mode(mode);
        Value x = held[register];
        BigInteger k = null;
        if (x.kind == ZERO) {
            k = BigInteger.ZERO;
        } else if (x.kind == NUMBER) {
            k = toMultiple(ratio(x.m, BigInteger.ONE, x.e), x.negative, 0, mode);
            k = x.negative ? k.negate() : k;
        }
        if (k == null || k.bitLength() > 63) {
            flags |= 32;
            throw new UnsupportedOperationException();
        }
        return k.longValueExact();
    }

    long feed(int... five) {
        if (tape.length + 20 > 4096) {
            throw new IllegalStateException();
        }
        byte[] longer = Arrays.copyOf(tape, tape.length + 20);
        for (int i = 0; i < 20; i++) {
            longer[tape.length + i] = (byte) (five[i / 4] >> 8 * (3 - i % 4));
        }
        tape = longer;
        return 0;
    }

    long end(int n) {
        check(among(n, 0, tape.length));
        int gone = tape.length - n;
        tape = Arrays.copyOf(tape, n);
        return gone;
    }

    long read(int register, int base, int mode) {
        registers(register);
        check(among(base, 2, 36));
        mode(mode);
        String text = new String(tape, java.nio.charset.StandardCharsets.ISO_8859_1);
        tape = new byte[0];
        if (text.equals("nan")) {
            return into(register, NOT_A_NUMBER, mode);
        }
        if (text.matches("[+-]?inf")) {
            return into(register, infinity(text.startsWith("-")), mode);
        }
        String digit = base <= 10 ? "[0-" + (char) ('0' + base - 1) + "]"
            : "[0-9a-" + (char) ('a' + base - 11) + "A-" + (char) ('A' + base - 11) + "]";
        String form = "[+-]?(" + digit + "+\\.?" + digit + "*|\\." + digit + "+)(@[+-]?[0-9]+)?";
        if (!text.matches(form)) {
            throw new UnsupportedOperationException();
        }
        boolean negative = text.startsWith("-");
        String plain = text.startsWith("+") || negative ? text.substring(1) : text;
        int at = plain.indexOf('@');
        String digits = at < 0 ? plain : plain.substring(0, at);
        BigInteger exponent = at < 0 ? BigInteger.ZERO : new BigInteger(plain.substring(at + 1));
        int point = digits.indexOf('.');
        int behind = point < 0 ? 0 : digits.length() - point - 1;
        BigInteger m = new BigInteger(digits.replace(".", ""), base);
        if (m.signum() == 0) {
            return into(register, zero(negative), mode);
        }
        // What is farther out than this leads to the same as this.
        int far = 50000;
        int k = exponent.min(BigInteger.valueOf(far)).max(BigInteger.valueOf(-far)).intValue() - behind;
        BigInteger scale = BigInteger.valueOf(base).pow(Math.abs(k));
        Size x = k >= 0 ? ratio(m.multiply(scale), BigInteger.ONE, 0) : ratio(m, scale, 0);
        return into(register, x, negative, mode);
    }

    /** The X and the digits as an integer. */
    private static final class Spelt {
        int power;
        BigInteger digits;
    }

    private static Spelt spell(Value x, int base, int n, int mode) {
        BigInteger b = BigInteger.valueOf(base);
        Size size = ratio(x.m, BigInteger.ONE, x.e);
        int power = (int) Math.floor((x.exponent() - 1) * Math.log(2) / Math.log(base)) - 1;
        while (besidePower(x, b, power) >= 0) {
            power++;
        }
        Spelt spelt = new Spelt();
        int k = n - power;
        BigInteger scale = b.pow(Math.abs(k));
        size = k >= 0 ? ratio(x.m.multiply(scale), BigInteger.ONE, x.e) : ratio(x.m, scale, x.e);
        spelt.digits = toMultiple(size, x.negative, 0, mode);
        spelt.power = power;
        if (spelt.digits.equals(b.pow(n))) {
            spelt.digits = b.pow(n - 1);
            spelt.power++;
        }
        return spelt;
    }

    private static int besidePower(Value x, BigInteger b, int power) {
        BigInteger scale = b.pow(Math.abs(power));
        return power >= 0 ? ratio(x.m, BigInteger.ONE, x.e).beside(scale, 0)
            : ratio(x.m.multiply(scale), BigInteger.ONE, x.e).beside(BigInteger.ONE, 0);
    }

    /** Whether n digits, read into p bits without ends of the range, are the number again. */
    private static boolean comesBack(Value x, int base, int n, int p) {
        Spelt spelt = spell(x, base, n, 0);
        int k = spelt.power - n;
        BigInteger scale = BigInteger.valueOf(base).pow(Math.abs(k));
        Size y = k >= 0 ? ratio(spelt.digits.multiply(scale), BigInteger.ONE, 0) : ratio(spelt.digits, scale, 0);
        int unit = exponentOf(y) - p;
        BigInteger again = toMultiple(y, false, unit, 0);
        return ratio(x.m, BigInteger.ONE, x.e).beside(again, unit) == 0;
    }

    long write(int register, int base, int n, int mode) {
        registers(register);
        check(among(base, 2, 36) && among(n, 0, 2000));
        mode(mode);
        Value x = held[register];
        if (x.kind != NUMBER) {
            throw new NoSuchElementException();
        }
        int count = n;
        int way = n == 0 ? 0 : mode;
        if (n == 0) {
            count = 1;
            while (!comesBack(x, base, count, bits[register])) {
                count++;
            }
        }
        Spelt spelt = spell(x, base, count, way);
        out = spelt.digits.toString(base);
        return spelt.power;
    }

    long octet(int k) {
        if (k < -1 || k >= out.length()) {
            throw new NoSuchElementException();
        }
        return k == -1 ? out.length() : out.charAt(k);
    }
}
