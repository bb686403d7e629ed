import java.math.BigInteger;

/** The sentences of promises 14 to 20 that name a boundary: each has a test of its own, with an object of its own. */
public final class LookingEdgesTest extends Checks {
    public static void main(String[] args) {
        sentence("14: the least one that is greater, or the greatest that is less", LookingEdgesTest::beside);
        sentence("14: the next float of its precision, with all bits", LookingEdgesTest::besideWithAllBits);
        sentence("14: infinities are such", LookingEdgesTest::toInfinity);
        sentence("14: an infinity has none beyond, and stays", LookingEdgesTest::fromInfinity);
        sentence("14: (a zero that comes is the one with the sign of what was)", LookingEdgesTest::toZero);
        sentence("14: the next of a zero", LookingEdgesTest::fromZero);
        sentence("14: in the range, gradual", LookingEdgesTest::gradualSteps);
        sentence("14: in the range, what is held being above it", LookingEdgesTest::fromAbove);
        sentence("14: in the range, what is held being below it", LookingEdgesTest::fromBelow);
        sentence("14: in the range, what is held being below a gradual one", LookingEdgesTest::fromBelowGradual);
        sentence("14: NaN stays: 0", LookingEdgesTest::besideNan);
        sentence("14: no flags", LookingEdgesTest::besideWithoutFlags);
        sentence("15: -1, 0 or 1", LookingEdgesTest::compareNumbers);
        sentence("15: the same (zeros are)", LookingEdgesTest::compareSpecials);
        sentence("15: one is NaN; the order flag is set", LookingEdgesTest::compareNan);
        sentence("16: 0 its precision", LookingEdgesTest::lookPrecision);
        sentence("16: 1 the kind of what it holds", LookingEdgesTest::lookKind);
        sentence("16: 2: 1 if its sign is negative, 0 if not; a NaN has no sign", LookingEdgesTest::lookSign);
        sentence("16: 3 its exponent; what is no number has no exponent", LookingEdgesTest::lookExponent);
        sentence("17: those from 32 k on", LookingEdgesTest::words);
        sentence("17: 0 from the p-th bit on", LookingEdgesTest::wordsBeyond);
        sentence("17: k not 0 .. 127", LookingEdgesTest::wordIndex);
        sentence("17: it is no number", LookingEdgesTest::wordOfNone);
        sentence("18: the double whose 64 bits these are", LookingEdgesTest::fromDoubles);
        sentence("18: rounded", LookingEdgesTest::fromDoubleRounds);
        sentence("18: (any NaN is NaN)", LookingEdgesTest::fromNans);
        sentence("19: rounded in a mode, as into precision 53", LookingEdgesTest::toDoublePrecision);
        sentence("19: the greatest exponent 1024", LookingEdgesTest::toDoubleAbove);
        sentence("19: a gradual range from -1021 on", LookingEdgesTest::toDoubleBelow);
        sentence("19: infinities and zeros", LookingEdgesTest::toDoubleSpecials);
        sentence("19: (no flags are set)", LookingEdgesTest::toDoubleFlags);
        sentence("19: 9221120237041090560 for NaN", LookingEdgesTest::toDoubleNan);
        sentence("20: rounded in a mode to an integer", LookingEdgesTest::toLongRounds);
        sentence("20: the integer is no long", LookingEdgesTest::toLongEnds);
        sentence("20: it is NaN or an infinity", LookingEdgesTest::toLongSpecials);
        sentence("20: the order flag is set. No other flag is", LookingEdgesTest::toLongFlags);
        finish("edges of promises 14 to 20");
    }

    private static BigInteger ones(int p) {
        return BigInteger.ONE.shiftLeft(p).subtract(BigInteger.ONE);
    }

    /** Kind and what is held then. */
    private static void step(boolean up, String want) {
        due(up ? "up" : "down", x.neighbour(0, up) + " " + show(0), want);
    }

    private static void hold(int p, long value, int scale) {
        x.precision(0, p);
        due("held exactly", x.number(0, value, scale, 0), 0);
    }

    private static void beside() {
        hold(2, 1, 0);
        step(true, "3 +3b-1");
        step(true, "3 +1b1");
        step(false, "3 +3b-1");
        step(false, "3 +1b0");
        step(false, "3 +3b-2");
        step(false, "3 +1b-1");
        hold(2, -1, 0);
        step(false, "3 -3b-1");
        step(true, "3 -1b0");
        step(true, "3 -3b-2");
    }

    private static void besideWithAllBits() {
        hold(4096, 1, 0);
        x.neighbour(0, true);
        due("the last bit", x.word(0, 0), 1);
        due("the first bit", x.word(0, 127), 2147483648L);
        x.neighbour(0, false);
        x.neighbour(0, false);
        due("ones below", x.word(0, 0) & x.word(0, 63) & x.word(0, 127), 4294967295L);
        due("the exponent below", x.look(0, 3), 0);
        x.neighbour(0, true);
        due("back", show(0), "+1b0");
        hold(33, 1, 0);
        step(true, "3 +4294967297b-32");
        hold(32, (1L << 32) - 1, 0);
        step(true, "3 +1b32");
        step(false, "3 +4294967295b0");
    }

    private static void toInfinity() {
        hold(2, 3, 16382);
        step(true, "1 +inf");
        hold(2, -3, 16382);
        step(false, "1 -inf");
        x.range(-3, 3, true);
        hold(3, 7, 0);
        step(true, "1 +inf");
        hold(3, 3, 1);
        step(true, "3 +7b0");
        step(false, "3 +3b1");
        step(false, "3 +5b0");
        hold(3, -7, 0);
        step(true, "3 -3b1");
    }

    private static void fromInfinity() {
        x.fromDouble(0, PLUS_INFINITY, 0);
        step(true, "1 +inf");
        step(false, "3 +" + ones(64) + "b16320");
        x.fromDouble(0, MINUS_INFINITY, 0);
        step(false, "1 -inf");
        step(true, "3 -" + ones(64) + "b16320");
        x.range(-7, -6, false);
        x.precision(0, 2);
        x.fromDouble(0, PLUS_INFINITY, 0);
        step(false, "3 +3b-8");
    }

    private static void toZero() {
        for (boolean gradual : new boolean[] {false, true}) {
            x.range(-4, 9, gradual);
            int least = gradual ? -7 : -5;
            hold(3, 1, least);
            step(false, "2 +0");
            hold(3, -1, least);
            step(true, "2 -0");
        }
        x.range(-16384, 16384, true);
        hold(4096, -1, -20480);
        step(true, "2 -0");
    }

    private static void fromZero() {
        for (long zero : new long[] {0, MINUS_ZERO}) {
            for (boolean gradual : new boolean[] {false, true}) {
                x.range(-4, 9, gradual);
                String least = gradual ? "1b-7" : "1b-5";
                x.precision(0, 3);
                x.fromDouble(0, zero, 0);
                step(true, "3 +" + least);
                x.fromDouble(0, zero, 0);
                step(false, "3 -" + least);
            }
        }
        x.range(-16384, 16384, true);
        x.precision(0, 4096);
        x.fromDouble(0, 0, 0);
        x.neighbour(0, true);
        due("the least of all", x.look(0, 3), -20479);
    }

    private static void gradualSteps() {
        x.range(-4, 9, true);
        hold(3, 1, -5);
        step(true, "3 +5b-7");
        step(false, "3 +1b-5");
        step(false, "3 +3b-7");
        step(false, "3 +1b-6");
        step(false, "3 +1b-7");
        step(false, "2 +0");
        hold(3, 1, -4);
        step(true, "3 +5b-6");
        step(false, "3 +1b-4");
        step(false, "3 +7b-7");
    }

    /** Above the greatest number there is only the infinity. */
    private static void fromAbove() {
        for (int sign = -1; sign <= 1; sign += 2) {
            String s = sign < 0 ? "-" : "+";
            x.range(-100, 100, false);
            hold(3, sign, 4);
            x.copy(1, 0, 0, 0);
            x.range(-5, 4, false);
            step(sign > 0, "1 " + s + "inf");
            x.range(-100, 100, false);
            x.copy(0, 1, 0, 0);
            x.range(-5, 4, false);
            step(sign < 0, "3 " + s + "7b1");
            x.range(-100, 100, false);
            hold(3, 5 * sign, 50);
            x.range(-5, 4, true);
            step(sign < 0, "3 " + s + "7b1");
            step(sign > 0, "1 " + s + "inf");
        }
    }

    /** Below the least number there is only the zero. */
    private static void fromBelow() {
        for (int sign = -1; sign <= 1; sign += 2) {
            String s = sign < 0 ? "-" : "+";
            for (int scale : new int[] {-8, -50}) {
                x.range(-100, 100, false);
                hold(3, 7 * sign, scale);
                x.range(-4, 9, false);
                step(sign > 0, "3 " + s + "1b-5");
                x.range(-100, 100, false);
                hold(3, 7 * sign, scale);
                x.range(-4, 9, false);
                step(sign < 0, "2 " + s + "0");
            }
        }
    }

    /** What is held need not be one of the multiples that the range has. */
    private static void fromBelowGradual() {
        int[] held = {7, 7, 5, 5, 1, 1};
        int[] scales = {-8, -8, -8, -8, -9, -9};
        String[] wants = {"3 +1b-5", "3 +3b-7", "3 +3b-7", "3 +1b-6", "3 +1b-7", "2 +0"};
        for (int i = 0; i < held.length; i++) {
            x.range(-100, 100, false);
            hold(3, held[i], scales[i]);
            x.range(-4, 9, true);
            step(i % 2 == 0, wants[i]);
            x.range(-100, 100, false);
            hold(3, -held[i], scales[i]);
            x.range(-4, 9, true);
            step(i % 2 != 0, wants[i].replace('+', '-'));
        }
    }

    private static void besideNan() {
        step(true, "0 NaN");
        step(false, "0 NaN");
    }

    private static void besideWithoutFlags() {
        hold(2, 3, 16382);
        step(true, "1 +inf");
        step(false, "3 +3b16382");
        hold(2, 1, -16385);
        step(false, "2 +0");
        step(false, "3 -1b-16385");
        x.range(-16384, 16384, true);
        step(true, "3 -1b-16386");
        due("none is set", x.flags(false), 0);
        x.number(0, 5, 0, 0);
        step(true, "3 +3b1");
        due("what is set stays", x.flags(true), 1);
    }

    private static void compareNumbers() {
        x.precision(0, 4096);
        x.precision(1, 2);
        x.number(0, 3, 0, 0);
        x.number(1, 3, 0, 0);
        due("the same in two precisions", x.compare(0, 1), 0);
        x.neighbour(0, true);
        due("the last of 4096 bits more", x.compare(0, 1), 1);
        due("and the other way round", x.compare(1, 0), -1);
        x.copy(2, 1, 1, 0);
        x.precision(3, 4096);
        x.copy(3, 0, 1, 0);
        due("negative", x.compare(3, 2), -1);
        due("and the other way round", x.compare(2, 3), 1);
        due("with itself", x.compare(3, 3), 0);
        x.number(4, 1, 16383, 0);
        x.number(5, -1, 16383, 0);
        x.number(6, 1, -16385, 0);
        x.number(7, -1, -16385, 0);
        int[] rising = {5, 3, 2, 7, 6, 1, 0, 4};
        for (int i = 0; i < rising.length; i++) {
            for (int j = 0; j < rising.length; j++) {
                due("places " + i + " and " + j, x.compare(rising[i], rising[j]), Integer.compare(i, j));
            }
        }
        due("flags", x.flags(false), 0);
    }

    private static void compareSpecials() {
        specials();
        x.number(6, 1, -16385, 0);
        x.number(7, -1, -16385, 0);
        due("0 and -0", x.compare(3, 4), 0);
        due("-0 and 0", x.compare(4, 3), 0);
        due("0 and the least", x.compare(3, 6), -1);
        due("-0 and the least below", x.compare(4, 7), 1);
        due("inf and inf", x.compare(1, 1), 0);
        due("-inf and -inf", x.compare(2, 2), 0);
        due("-inf and inf", x.compare(2, 1), -1);
        x.precision(8, 4096);
        x.copy(8, 1, 0, 0);
        due("inf and inf of more bits", x.compare(1, 8), 0);
        x.neighbour(8, false);
        due("inf and the greatest", x.compare(1, 8), 1);
        due("the greatest and inf", x.compare(8, 1), -1);
        due("the greatest and -inf", x.compare(8, 2), 1);
        x.copy(8, 8, 1, 0);
        due("minus the greatest and -inf", x.compare(8, 2), 1);
        due("-inf and minus the greatest", x.compare(2, 8), -1);
        x.number(9, 5, 0, 0);
        x.fromDouble(9, PLUS_INFINITY, 0);
        x.number(10, 9, 7, 0);
        x.fromDouble(10, PLUS_INFINITY, 0);
        due("infinities, whatever was held before", x.compare(9, 10), 0);
        x.fromDouble(9, 0, 0);
        x.fromDouble(10, MINUS_ZERO, 0);
        due("zeros, whatever was held before", x.compare(10, 9), 0);
        due("flags", x.flags(false), 0);
    }

    private static void compareNan() {
        specials();
        for (int other = 0; other <= 5; other++) {
            int register = other;
            throwing(UNSUPPORTED, "NaN first", () -> x.compare(0, register));
            due("flags", x.flags(true), 32);
            throwing(UNSUPPORTED, "NaN second", () -> x.compare(register, 0));
            due("flags", x.flags(true), 32);
        }
        throwing(ARGUMENT, "NaN and register 16", () -> x.compare(0, 16));
        throwing(ARGUMENT, "register -1 and NaN", () -> x.compare(-1, 0));
        due("flags", x.flags(true), 0);
    }

    private static void lookPrecision() {
        due("at first", x.look(15, 0), 64);
        x.precision(15, 2);
        due("the least", x.look(15, 0), 2);
        x.precision(15, 4096);
        due("the greatest, of NaN", x.look(15, 0), 4096);
        x.number(15, 1, 0, 0);
        due("of a number", x.look(15, 0), 4096);
    }

    private static void lookKind() {
        specials();
        int[] kinds = {0, 1, 1, 2, 2, 3};
        for (int r = 0; r <= 5; r++) {
            due("register " + r, x.look(r, 1), kinds[r]);
        }
        x.number(6, 1, -40000, 0);
        due("a zero of rounding", x.look(6, 1), 2);
        x.number(6, 1, 40000, 0);
        due("an infinity of rounding", x.look(6, 1), 1);
    }

    private static void lookSign() {
        specials();
        x.number(6, -6, 0, 0);
        int[] signs = {-1, 0, 1, 0, 1, 0, 1};
        for (int r = 1; r <= 6; r++) {
            due("register " + r, x.look(r, 2), signs[r]);
        }
        throwing(NONE, "of NaN", () -> x.look(0, 2));
        x.precision(6, 64);
        throwing(NONE, "of NaN that was negative", () -> x.look(6, 2));
    }

    private static void lookExponent() {
        specials();
        for (int r = 0; r <= 4; r++) {
            int register = r;
            throwing(NONE, "of " + show(r), () -> x.look(register, 3));
        }
        due("of 6", x.look(5, 3), 3);
        x.number(6, -1, 16383, 0);
        due("the greatest", x.look(6, 3), 16384);
        x.number(6, 1, -16385, 0);
        due("the least", x.look(6, 3), -16384);
        x.range(-16384, 16384, true);
        x.number(6, 1, -16448, 0);
        due("the least of 64 bits, gradual", x.look(6, 3), -16447);
        x.range(0, 0, false);
        due("out of the range", x.look(6, 3), -16447);
    }

    private static void words() {
        hold(2, 3, 100);
        due("two bits", x.word(0, 0), 3);
        hold(2, -1, 100);
        due("two bits, negative", x.word(0, 0), 2);
        hold(32, -1, 0);
        due("32 bits", x.word(0, 0), 2147483648L);
        hold(33, 1, 0);
        due("33 bits, the lowest", x.word(0, 0), 0);
        due("33 bits, the next", x.word(0, 1), 1);
        hold(64, -1, 0);
        due("64 bits", x.word(0, 1), 2147483648L);
        hold(64, 0x123456789ABCDEFL, 0);
        // 57 bits stand 7 places higher.
        due("the lowest word", x.word(0, 0), 0x123456789ABCDEFL << 7 & 0xFFFFFFFFL);
        due("the highest word", x.word(0, 1), 0x123456789ABCDEFL << 7 >>> 32);
        hold(4096, 1, 0);
        x.neighbour(0, false);
        for (int k : new int[] {0, 1, 126, 127}) {
            due("ones, word " + k, x.word(0, k), 4294967295L);
        }
        x.range(-4, 9, true);
        hold(3, 1, -7);
        due("below the least exponent, too, it has p bits", x.word(0, 0), 4);
    }

    private static void wordsBeyond() {
        hold(40, 1, 0);
        x.neighbour(0, false);
        due("the lowest word", x.word(0, 0), 4294967295L);
        due("8 bits more", x.word(0, 1), 255);
        due("none", x.word(0, 2), 0);
        due("none", x.word(0, 127), 0);
        hold(64, 1, 0);
        x.neighbour(0, false);
        due("64 bits", x.word(0, 1), 4294967295L);
        due("none", x.word(0, 2), 0);
        hold(4065, 1, 0);
        due("the highest bit of 4065", x.word(0, 127), 1);
        hold(4064, 1, 0);
        due("none of 4064", x.word(0, 127), 0);
        due("the highest bit of 4064", x.word(0, 126), 2147483648L);
    }

    private static void wordIndex() {
        hold(4096, 1, 0);
        due("k 127", x.word(0, 127), 2147483648L);
        due("k 0", x.word(0, 0), 0);
        throwing(ARGUMENT, "k 128", () -> x.word(0, 128));
        throwing(ARGUMENT, "k -1", () -> x.word(0, -1));
        throwing(ARGUMENT, "k 128 of NaN", () -> x.word(1, 128));
    }

    private static void wordOfNone() {
        specials();
        for (int r = 0; r <= 4; r++) {
            int register = r;
            throwing(NONE, "k 0 of " + show(r), () -> x.word(register, 0));
            throwing(NONE, "k 127 of " + show(r), () -> x.word(register, 127));
        }
    }

    private static void fromDoubles() {
        x.precision(0, 53);
        gives("the least", x.fromDouble(0, 1, 0), 0, "0 +1b-1074 0");
        gives("minus that", x.fromDouble(0, MINUS_ZERO | 1, 0), 0, "0 -1b-1074 0");
        gives("the greatest of exponent 0", x.fromDouble(0, 0xFFFFFFFFFFFFFL, 0), 0, "0 +" + ones(52) + "b-1074 0");
        gives("the least of exponent 1", x.fromDouble(0, 0x10000000000000L, 0), 0, "0 +1b-1022 0");
        gives("the next", x.fromDouble(0, 0x10000000000001L, 0), 0, "0 +4503599627370497b-1074 0");
        gives("the greatest", x.fromDouble(0, 0x7FEFFFFFFFFFFFFFL, 0), 0, "0 +" + ones(53) + "b971 0");
        gives("minus the greatest", x.fromDouble(0, 0xFFEFFFFFFFFFFFFFL, 0), 0, "0 -" + ones(53) + "b971 0");
        gives("infinity", x.fromDouble(0, PLUS_INFINITY, 1), 0, "0 +inf 0");
        gives("minus infinity", x.fromDouble(0, MINUS_INFINITY, 1), 0, "0 -inf 0");
        gives("0", x.fromDouble(0, 0, 3), 0, "0 +0 0");
        gives("-0", x.fromDouble(0, MINUS_ZERO, 2), 0, "0 -0 0");
        gives("1", from(1, 4), 0, "0 +1b0 0");
    }

    private static void fromDoubleRounds() {
        x.precision(0, 52);
        gives("53 bits into 52: half way", x.fromDouble(0, 0x3FF0000000000001L, 0), 0, "-1 +1b0 1");
        gives("53 bits into 52, up", x.fromDouble(0, 0x3FF0000000000001L, 2), 0, "1 +2251799813685249b-51 1");
        x.range(-1021, 1023, false);
        gives("above the range", x.fromDouble(0, 0xFFE0000000000000L, 0), 0, "-1 -inf 3");
        gives("below the range", x.fromDouble(0, 1, 0), 0, "-1 +0 5");
        gives("the least of the range", x.fromDouble(0, 0x10000000000000L, 0), 0, "0 +1b-1022 0");
        x.range(-1021, 1024, true);
        gives("a unit of 2^-1073", x.fromDouble(0, 3, 0), 0, "1 +1b-1072 5");
    }

    private static void fromNans() {
        long[] nans = {0x7FF0000000000001L, 0x7FF8000000000000L, 0x7FFFFFFFFFFFFFFFL, 0xFFF0000000000001L,
            0xFFF8000000000000L, -1L, 0x7FF0000080000000L, 0x7FF4000000000000L};
        for (long nan : nans) {
            x.number(0, 1, 0, 0);
            gives(Long.toHexString(nan), x.fromDouble(0, nan, 4), 0, "0 NaN 0");
        }
    }

    private static void gives(int mode, double want) {
        due(show(0) + " in mode " + mode, x.toDouble(0, mode), Double.doubleToRawLongBits(want));
    }

    private static void toDoublePrecision() {
        double even = 0x1p53;
        double next = 0x1p53 + 2;
        double[] above = {even, even, next, even, next};
        double[] below = {-even, -even, -even, -next, -next};
        for (int mode = 0; mode <= 4; mode++) {
            hold(64, (1L << 53) + 1, 0);
            gives(mode, above[mode]);
            hold(64, -(1L << 53) - 1, 0);
            gives(mode, below[mode]);
            hold(64, (1L << 53) - 1, 0);
            gives(mode, 0x1p53 - 1);
        }
        hold(64, (1L << 53) + 3, 0);
        gives(0, 0x1p53 + 4);
        hold(4096, (1L << 53) + 1, 0);
        x.neighbour(0, true);
        gives(0, next);
        x.number(0, (1L << 53) + 1, 0, 0);
        x.neighbour(0, false);
        gives(0, even);
        hold(2, 3, -1);
        gives(0, 1.5);
    }

    private static void toDoubleAbove() {
        double most = Double.MAX_VALUE;
        double infinite = Double.POSITIVE_INFINITY;
        double[] beyond = {infinite, most, infinite, most, infinite};
        double[] minusBeyond = {-infinite, -most, -most, -infinite, -infinite};
        for (int mode = 0; mode <= 4; mode++) {
            hold(64, (1L << 53) - 1, 971);
            gives(mode, most);
            hold(64, (1L << 54) - 1, 970);
            gives(mode, beyond[mode]);
            hold(64, -((1L << 54) - 1), 970);
            gives(mode, minusBeyond[mode]);
            hold(64, 1, 1024);
            gives(mode, beyond[mode]);
            hold(64, -1, 16383);
            gives(mode, minusBeyond[mode]);
        }
        hold(64, (1L << 55) - 3, 969);
        gives(0, most);
        gives(2, infinite);
    }

    private static void toDoubleBelow() {
        double least = Double.MIN_VALUE;
        double normal = Double.MIN_NORMAL;
        double[] half = {0.0, 0.0, least, 0.0, least};
        double[] minusHalf = {-0.0, -0.0, -0.0, -least, -least};
        double[] underNormal = {normal, normal - least, normal, normal - least, normal};
        for (int mode = 0; mode <= 4; mode++) {
            hold(64, 1, -1074);
            gives(mode, least);
            hold(64, 1, -1075);
            gives(mode, half[mode]);
            hold(64, -1, -1075);
            gives(mode, minusHalf[mode]);
            hold(64, -1, -16385);
            gives(mode, minusHalf[mode]);
            hold(64, (1L << 53) - 1, -1075);
            gives(mode, underNormal[mode]);
            hold(64, 1, -1022);
            gives(mode, normal);
            hold(64, (1L << 52) - 1, -1074);
            gives(mode, normal - least);
        }
        hold(64, 1025, -1085);
        gives(0, least);
        hold(64, 3, -1075);
        gives(0, 2 * least);
        hold(64, 5, -1075);
        gives(0, 2 * least);
    }

    private static void toDoubleSpecials() {
        specials();
        for (int mode = 0; mode <= 4; mode++) {
            due("inf", x.toDouble(1, mode), PLUS_INFINITY);
            due("-inf", x.toDouble(2, mode), MINUS_INFINITY);
            due("0", x.toDouble(3, mode), 0);
            due("-0", x.toDouble(4, mode), MINUS_ZERO);
        }
    }

    private static void toDoubleFlags() {
        hold(64, 1, 2000);
        x.toDouble(0, 0);
        hold(64, 1, -2000);
        x.toDouble(0, 0);
        hold(64, Long.MAX_VALUE, 0);
        x.toDouble(0, 0);
        due("none", x.flags(false), 0);
        due("the register stays", show(0), "+" + Long.MAX_VALUE + "b0");
        x.range(0, 0, false);
        due("the range is another", x.toDouble(0, 1), Double.doubleToRawLongBits(0x1p63 - 1024));
        x.precision(0, 2);
        x.number(0, 5, -3, 0);
        due("what was set", x.flags(false), 1);
        x.toDouble(0, 0);
        due("stays", x.flags(true), 1);
    }

    private static void toDoubleNan() {
        for (int mode = 0; mode <= 4; mode++) {
            due("mode " + mode, x.toDouble(0, mode), 9221120237041090560L);
        }
        x.fromDouble(0, -1, 0);
        due("of another NaN", x.toDouble(0, 0), 9221120237041090560L);
    }

    private static void toLongRounds() {
        int[] halves = {1, 3, 5, -1, -3, -5, 4, -4};
        long[][] wants = {{0, 0, 1, 0, 1}, {2, 1, 2, 1, 2}, {2, 2, 3, 2, 3}, {0, 0, 0, -1, -1}, {-2, -1, -1, -2, -2},
            {-2, -2, -2, -3, -3}, {2, 2, 2, 2, 2}, {-2, -2, -2, -2, -2}};
        for (int i = 0; i < halves.length; i++) {
            x.number(0, halves[i], -1, 0);
            for (int mode = 0; mode <= 4; mode++) {
                due(halves[i] + " halves, mode " + mode, x.toLong(0, mode), wants[i][mode]);
            }
        }
        long[] tiny = {0, 0, 1, 0, 1};
        long[] minusTiny = {0, 0, 0, -1, -1};
        for (int mode = 0; mode <= 4; mode++) {
            x.number(0, 1, -16385, 0);
            due("the least number, mode " + mode, x.toLong(0, mode), tiny[mode]);
            x.number(0, -1, -16385, 0);
            due("minus that, mode " + mode, x.toLong(0, mode), minusTiny[mode]);
        }
        x.precision(0, 4096);
        x.number(0, 1, -1, 0);
        x.neighbour(0, true);
        due("a little above a half", x.toLong(0, 0), 1);
        x.fromDouble(0, 0, 0);
        due("0", x.toLong(0, 4), 0);
        x.fromDouble(0, MINUS_ZERO, 0);
        due("-0", x.toLong(0, 3), 0);
    }

    private static String asLong(int mode) {
        try {
            return Long.toString(x.toLong(0, mode));
        } catch (UnsupportedOperationException e) {
            return "none";
        }
    }

    /** Half an integer beyond both ends, and the last bit of 4096 more and less than that. */
    private static void toLongEnds() {
        String most = Long.toString(Long.MAX_VALUE);
        String least = Long.toString(Long.MIN_VALUE);
        String[] aboveMost = {"none", most, "none", most, "none"};
        String[] belowLeast = {least, least, least, "none", "none"};
        for (int mode = 0; mode <= 4; mode++) {
            hold(65, Long.MAX_VALUE, 0);
            due("the greatest, mode " + mode, asLong(mode), most);
            hold(65, Long.MIN_VALUE, 0);
            due("the least, mode " + mode, asLong(mode), least);
            hold(65, 1, 63);
            due("2^63, mode " + mode, asLong(mode), "none");
            x.neighbour(0, false);
            x.neighbour(0, false);
            due("2^63 less a half, mode " + mode, asLong(mode), aboveMost[mode]);
            hold(65, -1, 63);
            x.neighbour(0, false);
            due("-2^63 less a half, mode " + mode, asLong(mode), belowLeast[mode]);
            for (int scale : new int[] {64, 65, 16383}) {
                hold(65, -1, scale);
                due("-2^" + scale + ", mode " + mode, asLong(mode), "none");
            }
        }
        x.precision(1, 65);
        hold(65, 1, 63);
        x.neighbour(0, false);
        x.neighbour(0, false);
        x.copy(1, 0, 0, 0);
        x.precision(0, 4096);
        x.copy(0, 1, 0, 0);
        x.neighbour(0, false);
        due("2^63 less a half and a little", asLong(0), most);
        x.number(1, 1, 63, 0);
        x.neighbour(1, true);
        x.copy(0, 1, 1, 0);
        x.neighbour(0, false);
        due("-2^63 less a half and a little", asLong(0), "none");
        due("-2^63 less a half and a little, up", asLong(2), least);
    }

    private static void toLongSpecials() {
        specials();
        for (int r = 0; r <= 2; r++) {
            int register = r;
            for (int mode = 0; mode <= 4; mode++) {
                int way = mode;
                throwing(UNSUPPORTED, "of " + show(r), () -> x.toLong(register, way));
                due("flags", x.flags(true), 32);
            }
        }
        throwing(ARGUMENT, "NaN in mode 5", () -> x.toLong(0, 5));
        due("flags", x.flags(true), 0);
    }

    private static void toLongFlags() {
        x.number(0, 5, -1, 0);
        x.toLong(0, 0);
        due("rounded", x.flags(true), 0);
        x.number(0, 1, 63, 0);
        throwing(UNSUPPORTED, "2^63", () -> x.toLong(0, 1));
        due("order alone", x.flags(false), 32);
        due("the register stays", show(0), "+1b63");
        x.number(0, 1, 0, 0);
        x.toLong(0, 0);
        due("it stays set", x.flags(true), 32);
    }
}
