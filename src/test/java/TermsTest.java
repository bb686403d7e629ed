import java.math.BigInteger;

/** The sentences under "Terms" that name a boundary: each has a test of its own, with an object of its own. */
public final class TermsTest extends Checks {
    public static void main(String[] args) {
        sentence("An object is used for at most 512 calls", TermsTest::lastCall);
        sentence("The exponent is the E for which |x| is at or above 2^(E - 1) and below 2^E", TermsTest::exponent);
        sentence("a precision, 64 at first, and hold a float, NaN at first", TermsTest::registersAtFirst);
        sentence("a number in one is a multiple of 2^(E - p)", TermsTest::multiples);
        sentence("a least exponent, -16384 at first", TermsTest::leastAtFirst);
        sentence("a greatest exponent, 16384 at first", TermsTest::greatestAtFirst);
        sentence("gradual or not (not at first)", TermsTest::notGradualAtFirst);
        sentence("flags: inexact 1 .. order 32", TermsTest::flagByFlag);
        sentence("none is set at first; they stay set until they are taken", TermsTest::flagsStay);
        sentence("0 to the nearest, of two that are as near the even one", TermsTest::nearest);
        sentence("1 toward 0; 2 up; 3 down; 4 away from 0", TermsTest::otherModes);
        sentence("U is x rounded to a multiple of 2^(E - p), E being the exponent of x", TermsTest::carry);
        sentence("if the range is gradual and E is below the least exponent", TermsTest::gradualUnit);
        sentence("The exponent of U is above the greatest one", TermsTest::overflow);
        sentence("the result is the infinity, else the number that is greatest", TermsTest::overflowResults);
        sentence("U is 0: the zero with the sign of x", TermsTest::zeroOfRounding);
        sentence("not gradual and the exponent of U is below the least one", TermsTest::underflow);
        sentence("the result is 2^(least - 1), else the zero", TermsTest::underflowResults);
        sentence("mode 0, if |x| is above 2^(least - 2)", TermsTest::halfOfTheLeast);
        sentence("gradual, the exponent of x below the least one and the result not x", TermsTest::gradualUnderflow);
        sentence("The result is not x: the inexact flag is set", TermsTest::inexact);
        sentence("The ternary is the sign of the result less x", TermsTest::ternary);
        sentence("results that are infinite or zero without rounding set no flag", TermsTest::withoutRounding);
        sentence("If an operand is NaN the result is NaN, without a flag", TermsTest::nanOperands);
        sentence("An exact zero: if all are zeros of the same sign, that sign", TermsTest::zerosOfOneSign);
        sentence("An exact zero: else negative in mode 3, positive in others", TermsTest::otherZeros);
        sentence("A product or quotient has the sign of both signs", TermsTest::bothSigns);
        sentence("whatever is reckoned is the exact real result: what was before does not matter", TermsTest::afterOthers);
        sentence("The tape and out have bytes, none at first; the tape up to 4096", TermsTest::tapeAndOut);
        sentence("All that is reckoned lies in the class's own memory", TermsTest::twoObjects);
        finish("terms");
    }

    private static void lastCall() {
        x.precision(0, 4096);
        x.number(0, 2, 0, 0);
        for (int i = 3; i <= 511; i++) {
            x.root(0, 0, 1 + i % 32, 0);
        }
        due("the 512th", x.power(0, 15, 0, 0), 0);
        TrueFloats other = new TrueFloats();
        other.number(1, 1, 0, 0);
        due("a new one", other.look(1, 3), 1);
    }

    private static void exponent() {
        for (int e : new int[] {-16384, -1, 0, 1, 64, 16384}) {
            x.number(0, 1, e - 1, 0);
            due("of 2^" + (e - 1), x.look(0, 3), e);
            x.copy(1, 0, 1, 0);
            due("of -2^" + (e - 1), x.look(1, 3), e);
            if (e < 16384) {
                x.number(0, 1, e, 0);
                x.neighbour(0, false);
                due("just below 2^" + e, x.look(0, 3), e);
            }
        }
        x.fromDouble(0, PLUS_INFINITY, 0);
        x.neighbour(0, false);
        due("of the greatest number", x.look(0, 3), 16384);
    }

    private static void registersAtFirst() {
        for (int r = 0; r <= 15; r++) {
            due("precision of " + r, x.look(r, 0), 64);
            due("kind of " + r, x.look(r, 1), 0);
        }
    }

    /** 2^(p - 1) + 1 has p bits, 2^p + 1 has one more. */
    private static void multiples() {
        x.number(1, 1, 0, 0);
        for (int p : new int[] {2, 3, 31, 32, 33, 63, 64, 65, 4095, 4096}) {
            x.precision(0, p);
            x.number(2, 1, p - 1, 0);
            due("2^" + (p - 1) + " + 1 with " + p + " bits", x.reckon(0, 0, 2, 1, 1), 0);
            due("its lowest bit", x.word(0, 0) & 1, 1);
            x.number(2, 1, p, 0);
            due("2^" + p + " + 1 with " + p + " bits", x.reckon(0, 0, 2, 1, 1), -1);
            due("flags", x.flags(true), 1);
        }
    }

    private static void leastAtFirst() {
        gives("the least number", x.number(0, 1, -16385, 1), 0, "0 +1b-16385 0");
        gives("what has the exponent below", x.number(0, 3, -16387, 1), 0, "-1 +0 5");
        gives("a number of that exponent", x.number(0, 3, -16386, 1), 0, "0 +3b-16386 0");
    }

    private static void greatestAtFirst() {
        x.precision(0, 3);
        gives("the greatest number", x.number(0, 7, 16381, 0), 0, "0 +7b16381 0");
        gives("what has the exponent above", x.number(0, 1, 16384, 0), 0, "1 +inf 3");
    }

    private static void notGradualAtFirst() {
        gives("half of the least number", x.number(0, 1, -16386, 1), 0, "-1 +0 5");
        x.range(-16384, 16384, true);
        gives("the same if it is gradual", x.number(0, 1, -16386, 1), 0, "0 +1b-16386 0");
    }

    private static void flagByFlag() {
        x.precision(0, 2);
        x.number(0, 5, 0, 0);
        due("inexact", x.flags(true), 1);
        // The overflow goes with inexact, and so does the underflow, but not in whole.
        x.precision(1, 2);
        x.range(-9, 1, false);
        x.number(1, 3, -1, 0);
        x.whole(1, 1, 2, 1);
        due("overflow", x.flags(true), 2);
        x.number(1, 5, -13, 0);
        due("underflow with inexact", x.flags(true), 5);
        x.fromDouble(2, 0, 0);
        x.reckon(3, 3, 2, 2, 0);
        due("invalid", x.flags(true), 8);
        x.power(3, 2, -1, 0);
        due("by zero", x.flags(true), 16);
        throwing(UNSUPPORTED, "compare", () -> x.compare(15, 15));
        due("order", x.flags(true), 32);
    }

    private static void flagsStay() {
        due("at first", x.flags(false), 0);
        x.precision(0, 2);
        x.number(0, 5, 0, 0);
        x.number(0, 5, 0, 0);
        due("set twice", x.flags(false), 1);
        x.number(0, 4, 0, 0);
        x.precision(0, 64);
        x.range(-5, 5, true);
        x.neighbour(0, true);
        due("still set after calls that set none", x.flags(false), 1);
        throwing(ARGUMENT, "a refused call", () -> x.number(16, 0, 0, 0));
        due("and after that", x.flags(true), 1);
        due("taken", x.flags(true), 0);
    }

    /** At each precision: half way above an even and above an odd number, and the least number beside half way. */
    private static void nearest() {
        for (int p : new int[] {2, 3, 31, 32, 33, 64, 65, 4096}) {
            x.precision(0, p);
            x.number(1, 1, p + 1, 0);
            x.number(2, 2, 0, 0);
            due("an even one and a half, " + p + " bits", x.reckon(0, 0, 1, 2, 0), -1);
            due("even stays", show(0), "+1b" + (p + 1));
            x.number(3, 1, -16385, 0);
            due("a little above half way, " + p + " bits", x.sum(0, 1, 3, 0), 1);
            x.number(2, 6, 0, 0);
            due("an odd one and a half, " + p + " bits", x.reckon(0, 0, 1, 2, 0), 1);
            due("odd goes on", x.word(0, 0) & 3, 2);
            x.number(3, -1, -16385, 0);
            due("a little below half way, " + p + " bits", x.sum(0, 1, 3, 0), -1);
        }
        x.precision(0, 2);
        x.flags(true);
        gives("-3.5 in 2 bits", x.number(0, -7, -1, 0), 0, "-1 -1b2 1");
        gives("-2.5 in 2 bits", x.number(0, -5, -1, 0), 0, "1 -1b1 1");
    }

    /** Values at, just above and just below a number of 2 bits, in units of 1/1024. */
    private static void otherModes() {
        x.precision(0, 2);
        String[] above = {"", "-1 +1b0 1", "1 +3b-1 1", "-1 +1b0 1", "1 +3b-1 1"};
        String[] below = {"", "-1 +3b-2 1", "1 +1b0 1", "-1 +3b-2 1", "1 +1b0 1"};
        String[] minusAbove = {"", "1 -1b0 1", "1 -1b0 1", "-1 -3b-1 1", "-1 -3b-1 1"};
        String[] minusBelow = {"", "1 -3b-2 1", "1 -3b-2 1", "-1 -1b0 1", "-1 -1b0 1"};
        for (int mode = 1; mode <= 4; mode++) {
            gives("1, mode " + mode, x.number(0, 1024, -10, mode), 0, "0 +1b0 0");
            gives("-1, mode " + mode, x.number(0, -1024, -10, mode), 0, "0 -1b0 0");
            gives("1 and a little, mode " + mode, x.number(0, 1025, -10, mode), 0, above[mode]);
            gives("1 less a little, mode " + mode, x.number(0, 1023, -10, mode), 0, below[mode]);
            gives("-1 less a little, mode " + mode, x.number(0, -1025, -10, mode), 0, minusAbove[mode]);
            gives("-1 and a little, mode " + mode, x.number(0, -1023, -10, mode), 0, minusBelow[mode]);
        }
    }

    /** A number of ones alone becomes the next power of two, which has a greater exponent. */
    private static void carry() {
        for (int p : new int[] {2, 32, 33, 64, 4096}) {
            x.precision(0, p);
            x.precision(1, 4096);
            x.number(1, 1, 0, 0);
            x.number(2, -1, -p - 1, 0);
            due("1 less half of the last bit below it, " + p + " bits", x.reckon(0, 0, 1, 2, 0), 1);
            due("is 1", show(0), "+1b0");
            due("with the exponent", x.look(0, 3), 1);
            due("toward 0", x.reckon(0, 0, 1, 2, 1), -1);
            due("is ones alone", show(0), "+" + ones(p) + "b" + -p);
            due("with the exponent", x.look(0, 3), 0);
        }
    }

    private static BigInteger ones(int p) {
        return BigInteger.ONE.shiftLeft(p).subtract(BigInteger.ONE);
    }

    /** With 3 bits and the least exponent -4, all below 2^-5 are multiples of 2^-7, and so are those above it. */
    private static void gradualUnit() {
        x.precision(0, 3);
        x.range(-4, 9, true);
        gives("9 halves of it: the exponent is the least", x.number(0, 9, -8, 0), 0, "-1 +1b-5 1");
        gives("7 halves of it: the exponent is below", x.number(0, 7, -8, 1), 0, "-1 +3b-7 5");
        gives("3 halves", x.number(0, -3, -8, 1), 0, "1 -1b-7 5");
        x.range(-5, 9, true);
        gives("7 halves if the least exponent is one less", x.number(0, 7, -8, 1), 0, "0 +7b-8 0");
        x.range(-4, 9, false);
        gives("7 halves if it is not gradual", x.number(0, 7, -8, 1), 0, "-1 +0 5");
        x.precision(0, 4096);
        x.range(-16384, 16384, true);
        gives("the least of all", x.number(0, 1, -20480, 0), 0, "0 +1b-20480 0");
        gives("its half, up", x.number(0, 1, -20481, 2), 0, "1 +1b-20480 5");
        gives("its half", x.number(0, 1, -20481, 0), 0, "-1 +0 5");
        gives("3 quarters of it", x.number(0, 3, -20482, 0), 0, "1 +1b-20480 5");
    }

    /** 14 is the greatest number of 3 bits below 16; what counts is U, and not x. */
    private static void overflow() {
        x.precision(0, 3);
        x.range(-5, 4, false);
        for (int mode = 0; mode <= 4; mode++) {
            boolean outward = mode == 2 || mode == 4;
            boolean infinite = outward || mode == 0;
            String down = "-1 +7b1 1";
            String beyond = "1 +inf 3";
            gives("14, mode " + mode, x.number(0, 14, 0, mode), 0, "0 +7b1 0");
            gives("14.5, mode " + mode, x.number(0, 29, -1, mode), 0, outward ? beyond : down);
            gives("15, half way, mode " + mode, x.number(0, 15, 0, mode), 0, infinite ? beyond : down);
            gives("15.5, mode " + mode, x.number(0, 31, -1, mode), 0, infinite ? beyond : down);
            gives("16, mode " + mode, x.number(0, 16, 0, mode), 0, infinite ? beyond : "-1 +7b1 3");
        }
        x.range(-5, 5, false);
        gives("16 if the greatest exponent is 5", x.number(0, 16, 0, 0), 0, "0 +1b4 0");
        x.range(5, 5, true);
        gives("one exponent alone, gradual", x.number(0, 15, 0, 0), 0, "1 +1b4 5");
        gives("and above it", x.number(0, 32, 0, 0), 0, "1 +inf 3");
    }

    private static void overflowResults() {
        x.precision(0, 3);
        x.precision(1, 4096);
        x.range(-5, 4, false);
        String[] above = {"1 +inf 3", "-1 +7b1 3", "1 +inf 3", "-1 +7b1 3", "1 +inf 3"};
        String[] below = {"-1 -inf 3", "1 -7b1 3", "1 -7b1 3", "-1 -inf 3", "-1 -inf 3"};
        for (int mode = 0; mode <= 4; mode++) {
            gives("16, mode " + mode, x.number(0, 16, 0, mode), 0, above[mode]);
            gives("-16, mode " + mode, x.number(0, -16, 0, mode), 0, below[mode]);
            gives("2^40000, mode " + mode, x.number(0, 1, 40000, mode), 0, above[mode]);
            gives("-2^40000, mode " + mode, x.number(0, -1, 40000, mode), 0, below[mode]);
        }
        gives("all bits", x.number(1, -16, 0, 1), 1, "1 -" + ones(4096) + "b-4092 3");
    }

    private static void zeroOfRounding() {
        x.precision(0, 3);
        x.range(-4, 9, true);
        for (int mode : new int[] {0, 1, 3}) {
            gives("half of the least, mode " + mode, x.number(0, 1, -8, mode), 0, "-1 +0 5");
        }
        for (int mode : new int[] {0, 1, 2}) {
            gives("minus that, mode " + mode, x.number(0, -1, -8, mode), 0, "1 -0 5");
        }
        gives("a little more", x.number(0, 1025, -18, 0), 0, "1 +1b-7 5");
        gives("minus that", x.number(0, -1025, -18, 0), 0, "-1 -1b-7 5");
        gives("nearly nothing", x.number(0, -1, -40000, 0), 0, "1 -0 5");
    }

    /** The least number of 3 bits is 2^-5; what is just below it may be rounded to it: then there is no underflow. */
    private static void underflow() {
        x.precision(0, 3);
        x.range(-4, 9, false);
        for (int mode = 0; mode <= 4; mode++) {
            boolean down = mode == 1 || mode == 3;
            gives("2^-5, mode " + mode, x.number(0, 1, -5, mode), 0, "0 +1b-5 0");
            gives("15 * 2^-9, mode " + mode, x.number(0, 15, -9, mode), 0, down ? "-1 +0 5" : "1 +1b-5 1");
            gives("7 * 2^-8, mode " + mode, x.number(0, 7, -8, mode), 0, down ? "-1 +0 5" : "1 +1b-5 5");
        }
        gives("29 * 2^-10, nearer to 7 * 2^-8", x.number(0, 29, -10, 0), 0, "1 +1b-5 5");
        x.range(-5, 9, false);
        gives("7 * 2^-8 if the least exponent is -5", x.number(0, 7, -8, 0), 0, "0 +7b-8 0");
    }

    private static void underflowResults() {
        x.precision(0, 3);
        x.range(-4, 9, false);
        String[] above = {"-1 +0 5", "-1 +0 5", "1 +1b-5 5", "-1 +0 5", "1 +1b-5 5"};
        String[] below = {"1 -0 5", "1 -0 5", "1 -0 5", "-1 -1b-5 5", "-1 -1b-5 5"};
        for (int mode = 0; mode <= 4; mode++) {
            gives("2^-7, mode " + mode, x.number(0, 1, -7, mode), 0, above[mode]);
            gives("-2^-7, mode " + mode, x.number(0, -1, -7, mode), 0, below[mode]);
            gives("2^-40000, mode " + mode, x.number(0, 1, -40000, mode), 0, above[mode]);
            gives("-2^-40000, mode " + mode, x.number(0, -1, -40000, mode), 0, below[mode]);
        }
    }

    /** x counts here, and not U: both of these are rounded to 2^-6 first. */
    private static void halfOfTheLeast() {
        x.precision(0, 3);
        x.range(-4, 9, false);
        gives("2^-6", x.number(0, 1024, -16, 0), 0, "-1 +0 5");
        gives("-2^-6", x.number(0, -1024, -16, 0), 0, "1 -0 5");
        gives("a little above", x.number(0, 1025, -16, 0), 0, "1 +1b-5 5");
        gives("minus that", x.number(0, -1025, -16, 0), 0, "-1 -1b-5 5");
        gives("a little below", x.number(0, 1023, -16, 0), 0, "-1 +0 5");
        // 3 * 2^-7 by 1.5 is 2^-6, and by a little less it is a little more.
        x.range(-20, 20, false);
        x.number(2, 3, -7, 0);
        x.number(3, 3, -1, 0);
        x.range(-4, 9, false);
        gives("a quotient of 2^-6", x.reckon(3, 0, 2, 3, 0), 0, "-1 +0 5");
        x.neighbour(3, false);
        gives("a quotient that is a little more", x.reckon(3, 0, 2, 3, 0), 0, "1 +1b-5 5");
    }

    private static void gradualUnderflow() {
        x.precision(0, 3);
        x.range(-4, 9, true);
        gives("a multiple below the least exponent", x.number(0, 3, -7, 0), 0, "0 +3b-7 0");
        gives("the least float", x.number(0, -1, -7, 0), 0, "0 -1b-7 0");
        gives("what is rounded up to 2^(least - 1)", x.number(0, 31, -10, 0), 0, "1 +1b-5 5");
        gives("what is rounded down to it: the exponent is not below", x.number(0, 33, -10, 0), 0, "-1 +1b-5 1");
        gives("what is rounded to a multiple", x.number(0, 11, -9, 0), 0, "1 +3b-7 5");
    }

    private static void inexact() {
        x.precision(0, 4096);
        x.precision(1, 4096);
        x.number(1, 1, 0, 0);
        x.number(2, 1, -4095, 0);
        due("the last bit fits", x.reckon(0, 0, 1, 2, 0), 0);
        due("flags", x.flags(true), 0);
        x.number(2, 1, -4096, 0);
        due("the next does not", x.reckon(0, 0, 1, 2, 0), -1);
        due("flags", x.flags(true), 1);
        x.number(2, 1, -16385, 0);
        due("nor does the least number", x.reckon(0, 0, 1, 2, 0), -1);
        due("flags", x.flags(true), 1);
    }

    private static void ternary() {
        x.precision(0, 2);
        int[] ofFive = {-1, -1, 1, -1, 1};
        int[] ofMinusFive = {1, 1, 1, -1, -1};
        for (int mode = 0; mode <= 4; mode++) {
            due("5, mode " + mode, x.number(0, 5, 0, mode), ofFive[mode]);
            due("-5, mode " + mode, x.number(0, -5, 0, mode), ofMinusFive[mode]);
            due("4, mode " + mode, x.number(0, 4, 0, mode), 0);
            due("-4, mode " + mode, x.number(0, -4, 0, mode), 0);
        }
    }

    private static void withoutRounding() {
        specials();
        x.precision(6, 2);
        for (int mode = 0; mode <= 4; mode++) {
            gives("an infinity", x.reckon(2, 6, 1, 2, mode), 6, "0 -inf 0");
            gives("an infinity added", x.reckon(0, 6, 5, 2, mode), 6, "0 -inf 0");
            gives("a zero", x.reckon(2, 6, 4, 5, mode), 6, "0 -0 0");
            gives("by an infinity", x.reckon(3, 6, 5, 2, mode), 6, "0 -0 0");
            gives("a sum of zeros", x.sum(6, 4, 1, mode), 6, "0 -0 0");
            gives("a root", x.root(6, 1, 32, mode), 6, "0 +inf 0");
            gives("a copy", x.copy(6, 2, 0, mode), 6, "0 -inf 0");
            gives("the number 0", x.number(6, 0, 7, mode), 6, "0 +0 0");
        }
        x.range(16384, 16384, false);
        gives("a zero far below the range", x.copy(6, 4, 0, 4), 6, "0 -0 0");
        x.range(-16384, -16384, false);
        gives("an infinity far above it", x.copy(6, 2, 0, 1), 6, "0 -inf 0");
    }

    private static void nanOperands() {
        specials();
        for (int other = 0; other <= 5; other++) {
            for (int operation = 0; operation <= 6; operation++) {
                boolean infinite = operation == 6 && (other == 1 || other == 2);
                String want = infinite ? "0 +inf 0" : "0 NaN 0";
                gives("operation " + operation + ", NaN first", x.reckon(operation, 6, 0, other, 0), 6, want);
                gives("operation " + operation + ", NaN second", x.reckon(operation, 6, other, 0, 0), 6, want);
            }
            gives("fused with NaN first", x.fused(6, 0, other, 5, 0), 6, "0 NaN 0");
            gives("fused with NaN second", x.fused(6, other, 0, 5, 0), 6, "0 NaN 0");
            gives("fused with NaN third", x.fused(6, other, 3, 0, 0), 6, "0 NaN 0");
        }
        for (int how = 0; how <= 2; how++) {
            gives("copy " + how, x.copy(6, 0, how, 0), 6, "0 NaN 0");
        }
        gives("root", x.root(6, 0, 2, 0), 6, "0 NaN 0");
        gives("power", x.power(6, 0, -1, 0), 6, "0 NaN 0");
        gives("power 0 tells otherwise", x.power(6, 0, 0, 0), 6, "0 +1b0 0");
        gives("whole", x.whole(6, 0, 0, 0), 6, "0 NaN 0");
        gives("sum", x.sum(6, 0, 6, 0), 6, "0 NaN 0");
        gives("dot", x.dot(6, 0, 0, 6, 0), 6, "0 NaN 0");
    }

    private static void zerosOfOneSign() {
        specials();
        x.copy(6, 4, 0, 0);
        x.number(7, -6, 0, 0);
        for (int mode = 0; mode <= 4; mode++) {
            gives("0 + 0", x.reckon(0, 8, 3, 3, mode), 8, "0 +0 0");
            gives("-0 + -0", x.reckon(0, 8, 4, 4, mode), 8, "0 -0 0");
            gives("0 - -0", x.reckon(1, 8, 3, 4, mode), 8, "0 +0 0");
            gives("-0 - 0", x.reckon(1, 8, 4, 3, mode), 8, "0 -0 0");
            gives("0 * -6 + -0", x.fused(8, 3, 7, 4, mode), 8, "0 -0 0");
            gives("-0 * -6 + 0", x.fused(8, 4, 7, 3, mode), 8, "0 +0 0");
            gives("the sum of -0", x.sum(8, 4, 1, mode), 8, "0 -0 0");
            gives("-0 * 6", x.dot(8, 4, 5, 1, mode), 8, "0 -0 0");
            gives("0 * 6 + -0 * -0", x.dot(8, 3, 5, 2, mode), 8, "0 +0 0");
        }
    }

    private static void otherZeros() {
        specials();
        x.number(6, -6, 0, 0);
        x.number(7, 36, 0, 0);
        x.number(8, 6, 0, 0);
        x.number(9, 6, 0, 0);
        for (int mode = 0; mode <= 4; mode++) {
            String want = mode == 3 ? "0 -0 0" : "0 +0 0";
            gives("0 + -0", x.reckon(0, 10, 3, 4, mode), 10, want);
            gives("-0 + 0", x.reckon(0, 10, 4, 3, mode), 10, want);
            gives("0 - 0", x.reckon(1, 10, 3, 3, mode), 10, want);
            gives("-0 - -0", x.reckon(1, 10, 4, 4, mode), 10, want);
            gives("6 - 6", x.reckon(1, 10, 5, 5, mode), 10, want);
            gives("-6 + 6", x.reckon(0, 10, 6, 5, mode), 10, want);
            gives("6 * -6 + 36", x.fused(10, 5, 6, 7, mode), 10, want);
            gives("0 * 6 + -0", x.fused(10, 3, 5, 4, mode), 10, want);
            gives("0 + -0 of a sum", x.sum(10, 3, 2, mode), 10, want);
            gives("6 + -6 of a sum", x.sum(10, 5, 2, mode), 10, want);
            gives("6 * 6 - 6 * 6 of a dot", x.dot(10, 5, 8, 2, mode), 10, want);
            gives("0 * 6 + -0 * 6 of a dot", x.dot(10, 3, 8, 2, mode), 10, want);
        }
        // Zeros of one sign beside numbers that cancel are not all that is added.
        x.fromDouble(4, MINUS_ZERO, 0);
        gives("-0 + 6 + -6, up", x.sum(10, 4, 3, 2), 10, "0 +0 0");
        x.fromDouble(4, 0, 0);
        gives("0 + 6 + -6, down", x.sum(10, 4, 3, 3), 10, "0 -0 0");
    }

    private static void bothSigns() {
        specials();
        x.number(6, 1, 0, 0);
        for (int a : new int[] {1, 3, 5}) {
            for (int signs = 0; signs < 4; signs++) {
                x.copy(7, a, signs & 1, 0);
                x.copy(8, 6, signs >> 1, 0);
                int want = signs == 1 || signs == 2 ? 1 : 0;
                x.reckon(2, 9, 7, 8, 3);
                due("a product", x.look(9, 2), want);
                x.reckon(3, 9, 7, 8, 3);
                due("a quotient", x.look(9, 2), want);
            }
        }
    }

    /** Results that are negative, inexact, invalid or infinite, and after each others that are not. */
    private static void afterOthers() {
        specials();
        x.number(6, 7, 0, 0);
        x.number(7, -3, 0, 0);
        x.number(8, 12, 0, 0);
        x.number(9, 5, 0, 0);
        for (int i = 0; i < 12; i++) {
            x.reckon(3, 10, 6, 7, 0);
            x.root(11, 7, 3, 0);
            x.fused(11, 1, 3, 5, 0);
            x.sum(11, 1, 2, 0);
            due("the flags of those", x.flags(true), 9);
            switch (i) {
                case 0 -> gives("7 rem -3", x.reckon(4, 12, 6, 7, 0), 12, "0 +1b0 0");
                case 1 -> gives("12 * 5", x.reckon(2, 12, 8, 9, 0), 12, "0 +15b2 0");
                case 2 -> gives("5 / 5", x.reckon(3, 12, 9, 9, 0), 12, "0 +1b0 0");
                case 3 -> gives("the root of 144 + 25", x.reckon(6, 12, 8, 9, 0), 12, "0 +13b0 0");
                case 4 -> gives("12 + 5", x.reckon(0, 12, 8, 9, 0), 12, "0 +17b0 0");
                case 5 -> gives("12 * 5 + 7", x.fused(12, 8, 9, 6, 0), 12, "0 +67b0 0");
                case 6 -> gives("7 - 3 + 12 + 5", x.sum(12, 6, 4, 0), 12, "0 +21b0 0");
                case 7 -> gives("a copy of 7", x.copy(12, 6, 0, 0), 12, "0 +7b0 0");
                case 8 -> gives("7", x.number(12, 7, 0, 0), 12, "0 +7b0 0");
                case 9 -> gives("7 as an integer", x.whole(12, 6, 0, 0), 12, "0 +7b0 0");
                case 10 -> gives("7 to the power of 1", x.power(12, 6, 1, 0), 12, "0 +7b0 0");
                default -> gives("7 * 12 - 3 * 5", x.dot(12, 6, 8, 2, 0), 12, "0 +69b0 0");
            }
        }
    }

    private static void tapeAndOut() {
        due("out", x.octet(-1), 0);
        tapeHas(0);
        type("1".repeat(4096));
        tapeHas(4096);
        x.precision(0, 2);
        due("all 4096 are read", x.read(0, 2, 1) + " " + show(0), "-1 +3b4094");
        tapeHas(0);
    }

    /** What one object does, another does not see. */
    private static void twoObjects() {
        TrueFloats first = x;
        TrueFloats second = new TrueFloats();
        first.precision(0, 100);
        first.number(0, 7, 0, 0);
        first.range(-3, 3, true);
        first.number(1, 100, 0, 0);
        first.write(0, 10, 3, 0);
        first.feed(1, 2, 3, 4, 5);
        due("precision", second.look(0, 0), 64);
        due("kind", second.look(0, 1), 0);
        due("flags", second.flags(false), 0);
        due("out", second.octet(-1), 0);
        due("tape", second.end(0), 0);
        due("range", second.range(0, 0, false), 16384);
        second.precision(0, 3);
        second.number(0, 1, 0, 0);
        second.power(0, 0, -3, 0);
        due("the first one still", show(0), "+7b0");
        due("its out", out(), "700");
        due("its tape", x.end(0), 20);
    }
}
