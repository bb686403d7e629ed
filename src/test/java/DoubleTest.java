import java.math.BigDecimal;
import java.math.MathContext;
import java.math.RoundingMode;
import java.util.Random;

/**
 * Floats of 53 and of 24 bits beside the machine's own doubles and floats, and texts beside those of the Java library:
 * witnesses that know nothing of the document's wording, nor of Model.
 */
public final class DoubleTest extends Checks {
    private static final RoundingMode[] AS_IN_THE_LIBRARY = {
        RoundingMode.HALF_EVEN, RoundingMode.DOWN, RoundingMode.CEILING, RoundingMode.FLOOR, RoundingMode.UP,
    };
    private static final double[] SPECIALS = {
        0.0, -0.0, 1.0, -1.0, Double.NaN, Double.POSITIVE_INFINITY, Double.NEGATIVE_INFINITY, Double.MAX_VALUE,
        -Double.MAX_VALUE, Double.MIN_VALUE, -Double.MIN_VALUE, Double.MIN_NORMAL, -Double.MIN_NORMAL,
        Math.nextDown(Double.MIN_NORMAL), 0x1p1023, 0.5, 1.5, -2.5, 3.0, 0x1p63, -0x1p63, 0x1p62 - 256,
    };
    private static final BigDecimal TOO_GREAT = new BigDecimal(0x1p1023).multiply(BigDecimal.valueOf(2));
    private static final BigDecimal LEAST_NORMAL = new BigDecimal(Double.MIN_NORMAL);
    private static final Random CHANCE = new Random(20261116);

    public static void main(String[] args) {
        int rounds = args.length > 0 ? Integer.parseInt(args[0]) : 1;
        for (double a : SPECIALS) {
            for (double b : SPECIALS) {
                onDoubles(a, b, CHANCE.nextBoolean() ? 1.0 : b);
            }
        }
        for (int i = 0; i < 3000 * rounds; i++) {
            onDoubles(some(), some(), some());
            onFloats((float) some(), (float) some());
        }
        for (int i = 0; i < 1500 * rounds; i++) {
            texts();
        }
        finish("doubles");
    }

    /** A double by chance, more often one of a kind that is near another's edge. */
    private static double some() {
        double sign = CHANCE.nextBoolean() ? 1 : -1;
        switch (CHANCE.nextInt(8)) {
            case 0:
                return SPECIALS[CHANCE.nextInt(SPECIALS.length)];
            case 1:
                return sign * CHANCE.nextInt(100);
            case 2:
                return sign * CHANCE.nextLong();
            case 3:
                return sign * Math.scalb(1.0, CHANCE.nextInt(2098) - 1074);
            case 4:
                return sign * Double.longBitsToDouble(CHANCE.nextLong() >>> 12 + CHANCE.nextInt(50));
            case 5:
                return sign * (CHANCE.nextInt(64) + CHANCE.nextInt(8) / 8.0);
            case 6:
                return sign * Math.scalb(1 + CHANCE.nextDouble(), CHANCE.nextInt(60) - 30);
            default:
                return Double.longBitsToDouble(CHANCE.nextLong());
        }
    }

    /** A real number told by a fraction, or by the square of which it is the root. */
    private static final class Exact {
        final BigDecimal above;
        final BigDecimal below;
        final int degree;

        Exact(BigDecimal numerator, BigDecimal denominator, int n) {
            boolean turn = denominator.signum() < 0;
            above = turn ? numerator.negate() : numerator;
            below = denominator.abs();
            degree = n;
        }

        /** The sign of a double, which is no NaN, less this. */
        int under(double r) {
            if (Double.isInfinite(r) || Math.signum(r) != above.signum()) {
                return Integer.signum(Double.compare(Math.signum(r), Double.isInfinite(r) ? 0 : above.signum()));
            }
            BigDecimal power = new BigDecimal(Math.abs(r)).pow(degree).multiply(below);
            return above.signum() * power.compareTo(above.abs());
        }

        boolean isBelow(BigDecimal bound) {
            return above.abs().compareTo(bound.pow(degree).multiply(below)) < 0;
        }
    }

    private static Exact fraction(BigDecimal numerator, BigDecimal denominator) {
        return numerator.signum() == 0 ? null : new Exact(numerator, denominator, 1);
    }

    private static Exact number(BigDecimal value) {
        return fraction(value, BigDecimal.ONE);
    }

    private static BigDecimal big(double value) {
        return new BigDecimal(value);
    }

    private static boolean finite(double... values) {
        for (double value : values) {
            if (Double.isNaN(value) || Double.isInfinite(value)) {
                return false;
            }
        }
        return true;
    }

    /** An object whose registers are doubles, the first three with these values. */
    private static void hold(double a, double b, double c) {
        begin(a + ", " + b + ", " + c + " as doubles");
        for (int r = 0; r < 4; r++) {
            x.precision(r, 53);
        }
        x.range(-1021, 1024, true);
        put(0, a);
        put(1, b);
        put(2, c);
        x.flags(true);
    }

    private static void put(int r, double value) {
        due("fromDouble", x.fromDouble(r, Double.doubleToRawLongBits(value), 0), 0);
    }

    private static void onDoubles(double a, double b, double c) {
        hold(a, b, c);
        for (int mode = 0; mode <= 4; mode++) {
            arithmetic(a, b, c, mode);
            remainders(a, b, mode);
            roots(a, b, mode);
        }
        integers(a);
        others(a, b);
    }

    private static void arithmetic(double a, double b, double c, int mode) {
        boolean both = finite(a, b);
        Exact exact = both ? number(big(a).add(big(b))) : null;
        int ternary = x.reckon(0, 3, 0, 1, mode);
        rounded("the sum", ternary, zeroInMode(a + b, a, b, exact, mode), exact, mode, invalid(a + b, a, b));
        exact = both ? number(big(a).subtract(big(b))) : null;
        ternary = x.reckon(1, 3, 0, 1, mode);
        rounded("the difference", ternary, zeroInMode(a - b, a, -b, exact, mode), exact, mode, invalid(a - b, a, b));
        exact = both ? number(big(a).multiply(big(b))) : null;
        ternary = x.reckon(2, 3, 0, 1, mode);
        rounded("the product", ternary, a * b, exact, mode, invalid(a * b, a, b));
        exact = both && b != 0 ? fraction(big(a), big(b)) : null;
        ternary = x.reckon(3, 3, 0, 1, mode);
        int byZero = b == 0 && a != 0 && finite(a) ? 16 : 0;
        rounded("the quotient", ternary, a / b, exact, mode, byZero | invalid(a / b, a, b));
        exact = finite(a, b, c) ? number(big(a).multiply(big(b)).add(big(c))) : null;
        double fused = Math.fma(a, b, c);
        ternary = x.fused(3, 0, 1, 2, mode);
        rounded("a b + c", ternary, zeroInMode(fused, a * b, c, exact, mode), exact, mode, invalid(fused, a, b, c));
    }

    /** The machine knows mode 0 alone: in mode 3 a zero is negative unless it comes of positive zeros. */
    private static double zeroInMode(double sum, double a, double b, Exact exact, int mode) {
        boolean sameZeros = a == 0 && b == 0 && Math.copySign(1, a) == Math.copySign(1, b);
        return sum == 0 && exact == null && mode == 3 && !sameZeros ? -0.0 : sum;
    }

    /** The invalid flag, if the machine has NaN where there was none. */
    private static int invalid(double result, double... operands) {
        for (double operand : operands) {
            if (Double.isNaN(operand)) {
                return 0;
            }
        }
        return Double.isNaN(result) ? 8 : 0;
    }

    private static void remainders(double a, double b, int mode) {
        int ternary = x.reckon(4, 3, 0, 1, mode);
        rounded("x - n y", ternary, Math.IEEEremainder(a, b), null, mode, invalid(a % b, a, b));
        ternary = x.reckon(5, 3, 0, 1, mode);
        rounded("x - n y, n toward 0", ternary, a % b, null, mode, invalid(a % b, a, b));
    }

    private static void roots(double a, double b, int mode) {
        int ternary = x.root(3, 0, 2, mode);
        Exact exact = a > 0 && finite(a) ? new Exact(big(a), BigDecimal.ONE, 2) : null;
        rounded("the root", ternary, Math.sqrt(a), exact, mode, invalid(Math.sqrt(a), a));
        if (!finite(a, b) || a == 0 && b == 0) {
            return;
        }
        x.reckon(6, 3, 0, 1, mode);
        x.flags(true);
        double r = Double.longBitsToDouble(x.toDouble(3, 0));
        Exact hypotenuse = new Exact(big(a).pow(2).add(big(b).pow(2)), BigDecimal.ONE, 2);
        if (mode == 2) {
            due("the hypotenuse, up", hypotenuse.under(r) >= 0 && hypotenuse.under(Math.nextDown(r)) < 0, true);
        } else if (mode == 3) {
            due("the hypotenuse, down", hypotenuse.under(r) <= 0 && hypotenuse.under(Math.nextUp(r)) > 0, true);
        }
    }

    /** Looks at register 3 and the flags: nearest is what the machine has; null is a result without rounding. */
    private static void rounded(String what, int ternary, double nearest, Exact exact, int mode, int otherFlags) {
        double want = exact == null ? nearest : directed(nearest, exact, mode);
        int error = exact == null ? 0 : exact.under(want);
        String name = what + " in mode " + mode;
        due(name, Double.longBitsToDouble(x.toDouble(3, 0)), want);
        due("the ternary of " + name, ternary, error);
        boolean overflow = exact != null && (Double.isInfinite(want) || !exact.isBelow(TOO_GREAT));
        boolean underflow = error != 0 && exact.isBelow(LEAST_NORMAL);
        due("the flags of " + name, x.flags(true),
            otherFlags + (error != 0 ? 1 : 0) + (overflow ? 2 : 0) + (underflow ? 4 : 0));
    }

    private static double directed(double nearest, Exact exact, int mode) {
        boolean above = exact.above.signum() > 0;
        boolean up = mode == 2 || mode == (above ? 4 : 1);
        int error = exact.under(nearest);
        if (mode == 0 || error == 0 || error > 0 == up) {
            return nearest;
        }
        return up ? Math.nextUp(nearest) : Math.nextDown(nearest);
    }

    private static void integers(double a) {
        double[] want = {Math.rint(a), a < 0 ? Math.ceil(a) : Math.floor(a), Math.ceil(a), Math.floor(a), awayAtHalf(a)};
        for (int way = 0; way <= 4; way++) {
            int ternary = x.whole(3, 0, way, 0);
            due("way " + way, Double.longBitsToDouble(x.toDouble(3, 0)), want[way]);
            due("the ternary of way " + way, ternary, want[way] == a || Double.isNaN(a) ? 0 : want[way] > a ? 1 : -1);
            due("the flags of way " + way, x.flags(true), ternary == 0 ? 0 : 1);
        }
        if (Math.abs(a) < 0x1p63) {
            due("toLong toward 0", x.toLong(0, 1), (long) a);
            due("toLong", x.toLong(0, 0), (long) want[0]);
        } else if (a != -0x1p63) {
            throwing(UNSUPPORTED, "toLong", () -> x.toLong(0, 1));
            due("the flags of toLong", x.flags(true), 32);
        }
    }

    private static double awayAtHalf(double a) {
        double low = Math.floor(Math.abs(a));
        return Math.copySign(Math.abs(a) - low >= 0.5 ? low + 1 : low, a);
    }

    private static void others(double a, double b) {
        if (Double.isNaN(a) || Double.isNaN(b)) {
            throwing(UNSUPPORTED, "compare", () -> x.compare(0, 1));
            x.flags(true);
        } else {
            due("compare", x.compare(0, 1), a < b ? -1 : a > b ? 1 : 0);
        }
        x.copy(3, 0, 1, 0);
        due("negated", Double.longBitsToDouble(x.toDouble(3, 0)), -a);
        x.copy(3, 0, 2, 0);
        due("without its sign", Double.longBitsToDouble(x.toDouble(3, 0)), Math.abs(a));
        x.copy(3, 0, 0, 0);
        x.neighbour(3, true);
        due("the next above", Double.longBitsToDouble(x.toDouble(3, 0)), Math.nextUp(a));
        x.copy(3, 0, 0, 0);
        x.neighbour(3, false);
        due("the next below", Double.longBitsToDouble(x.toDouble(3, 0)), Math.nextDown(a));
        due("no flags", x.flags(true), 0);
    }

    private static void onFloats(float a, float b) {
        begin(a + ", " + b + " as floats");
        for (int r = 0; r < 4; r++) {
            x.precision(r, 24);
        }
        x.range(-125, 128, true);
        put(0, a);
        put(1, b);
        float[] want = {a + b, a - b, a * b, a / b, (float) Math.IEEEremainder(a, b), a % b};
        for (int operation = 0; operation <= 5; operation++) {
            x.reckon(operation, 3, 0, 1, 0);
            due("operation " + operation, (float) Double.longBitsToDouble(x.toDouble(3, 0)), want[operation]);
        }
        double wide = some();
        x.fromDouble(3, Double.doubleToRawLongBits(wide), 0);
        due(wide + " as a float", Double.longBitsToDouble(x.toDouble(3, 0)), (double) (float) wide);
        long whole = CHANCE.nextLong() >> CHANCE.nextInt(64);
        x.number(3, whole, 0, 0);
        due(whole + " as a float", Double.longBitsToDouble(x.toDouble(3, 0)), (double) (float) whole);
    }

    private static void texts() {
        reading();
        integersInBases();
        double a = some();
        if (a == 0 || !finite(a)) {
            return;
        }
        hold(a, 1, 1);
        int mode = CHANCE.nextInt(5);
        int n = 1 + CHANCE.nextInt(CHANCE.nextInt(10) == 0 ? 800 : 25);
        due(n + " digits in mode " + mode, x.write(0, 10, n, mode) + " " + out(), digits(a, n, AS_IN_THE_LIBRARY[mode]));
        if (Math.abs(a) >= Double.MIN_NORMAL) {
            shortest(a);
        }
    }

    /** The power of ten and the digits, as write has them. */
    private static String digits(double a, int n, RoundingMode mode) {
        BigDecimal rounded = new BigDecimal(a).round(new MathContext(n, mode));
        StringBuilder text = new StringBuilder(rounded.unscaledValue().abs().toString());
        while (text.length() < n) {
            text.append('0');
        }
        return rounded.precision() - rounded.scale() + " " + text;
    }

    private static void shortest(double a) {
        int n = 1;
        while (new BigDecimal(a).round(new MathContext(n, RoundingMode.HALF_EVEN)).doubleValue() != a) {
            n++;
        }
        due("the fewest digits", x.write(0, 10, 0, CHANCE.nextInt(5)) + " " + out(), digits(a, n, RoundingMode.HALF_EVEN));
    }

    private static void reading() {
        StringBuilder number = new StringBuilder(CHANCE.nextBoolean() ? "-" : CHANCE.nextBoolean() ? "+" : "");
        int count = 1 + CHANCE.nextInt(CHANCE.nextInt(10) == 0 ? 400 : 22);
        int point = CHANCE.nextInt(count + 1);
        for (int i = 0; i < count; i++) {
            number.append(i == point ? "." : "").append(CHANCE.nextInt(10));
        }
        int power = CHANCE.nextInt(3) == 0 ? CHANCE.nextInt(700) - 370 : CHANCE.nextInt(40) - 20;
        hold(0, 0, 0);
        type(number + "@" + power);
        x.read(3, 10, 0);
        double want = Double.parseDouble(number + "e" + power);
        due(number + "@" + power, Double.longBitsToDouble(x.toDouble(3, 0)), want);
    }

    private static void integersInBases() {
        int base = 2 + CHANCE.nextInt(35);
        long value = CHANCE.nextLong() >> CHANCE.nextInt(62);
        if (value == 0) {
            return;
        }
        String text = Long.toString(value, base);
        begin(text + " in base " + base);
        type(CHANCE.nextBoolean() ? text : text.toUpperCase());
        x.read(0, base, 0);
        due("toLong", x.toLong(0, 0), value);
        String bare = text.startsWith("-") ? text.substring(1) : text;
        due("write", x.write(0, base, bare.length(), 1) + " " + out(), bare.length() + " " + bare);
    }
}
