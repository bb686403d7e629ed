import java.math.BigInteger;

/** The sentences of promises 1 to 13 that name a boundary: each has a test of its own, with an object of its own. */
public final class ReckoningEdgesTest extends Checks {
    public static void main(String[] args) {
        sentence("1: an object in the state that the terms give", ReckoningEdgesTest::newObject);
        sentence("2: has this precision from then on, and holds NaN", ReckoningEdgesTest::precision);
        sentence("2: answers its precision before", ReckoningEdgesTest::precisionBefore);
        sentence("3: -16384 .. 16384, least at or below greatest", ReckoningEdgesTest::rangeEnds);
        sentence("3: registers keep what they hold", ReckoningEdgesTest::rangeKeeps);
        sentence("3: answers the greatest exponent before", ReckoningEdgesTest::rangeBefore);
        sentence("4: the sum of the flags; none is set then if take is true", ReckoningEdgesTest::flags);
        sentence("5: value * 2^scale", ReckoningEdgesTest::numberEnds);
        sentence("5: 0 is the positive zero", ReckoningEdgesTest::numberZero);
        sentence("6: as it is, negated, or without its sign", ReckoningEdgesTest::copyHow);
        sentence("6: a NaN is one", ReckoningEdgesTest::copyNan);
        sentence("6: rounded", ReckoningEdgesTest::copyRounds);
        sentence("7: x + y and x - y, the widest", ReckoningEdgesTest::widestSums);
        sentence("7: x * y and x / y, rounded", ReckoningEdgesTest::productsAndQuotients);
        sentence("7: n to the nearest integer, of two the even one", ReckoningEdgesTest::nearestMultiple);
        sentence("7: the same, n rounded toward 0", ReckoningEdgesTest::multipleBelow);
        sentence("7: the remainders that are widest apart", ReckoningEdgesTest::widestRemainders);
        sentence("7: the root of x x + y y", ReckoningEdgesTest::hypotenuse);
        sentence("7: invalid: infinities added with different signs", ReckoningEdgesTest::infinitiesAdded);
        sentence("7: invalid: a zero times an infinity", ReckoningEdgesTest::zeroTimesInfinity);
        sentence("7: an infinity times a number or an infinity", ReckoningEdgesTest::infiniteProducts);
        sentence("7: invalid: a zero by a zero, an infinity by an infinity", ReckoningEdgesTest::noQuotient);
        sentence("7: invalid: in 4 and 5 an infinite x, or y a zero", ReckoningEdgesTest::noRemainder);
        sentence("7: a number by a zero: the infinity, by zero flag", ReckoningEdgesTest::byZero);
        sentence("7: an infinity by a zero: the infinity", ReckoningEdgesTest::infinityByZero);
        sentence("7: zero or number by an infinity: the zero", ReckoningEdgesTest::byInfinity);
        sentence("7: in 4 and 5: x, rounded", ReckoningEdgesTest::remainderByInfinity);
        sentence("7: a zero in 4 and 5 has the sign of x", ReckoningEdgesTest::zeroRemainder);
        sentence("7: in 6 an infinity beside anything, NaN too", ReckoningEdgesTest::infiniteHypotenuse);
        sentence("7: two zeros the positive zero", ReckoningEdgesTest::zeroHypotenuse);
        sentence("8: rounded once", ReckoningEdgesTest::fusedOnce);
        sentence("8: a zero times an infinity (c no NaN)", ReckoningEdgesTest::fusedZeroTimesInfinity);
        sentence("8: an infinite product and c the other infinity", ReckoningEdgesTest::fusedInfinities);
        sentence("9: the n-th root (n 1 .. 32)", ReckoningEdgesTest::rootDegrees);
        sentence("9: rounded", ReckoningEdgesTest::rootRounds);
        sentence("9: a zero, an infinity: itself", ReckoningEdgesTest::rootItself);
        sentence("9: n even and the negative infinity, or a number below 0", ReckoningEdgesTest::rootInvalid);
        sentence("10: a to the power of n (-32 .. 32)", ReckoningEdgesTest::powerEnds);
        sentence("10: n 0: 1, also of NaN", ReckoningEdgesTest::powerZero);
        sentence("10: a zero or an infinity", ReckoningEdgesTest::powerSpecials);
        sentence("10: for a zero with the by zero flag", ReckoningEdgesTest::powerByZero);
        sentence("10: out of the range", ReckoningEdgesTest::powerOut);
        sentence("11: by way 0 .. 4", ReckoningEdgesTest::ways);
        sentence("11: what is beside a half", ReckoningEdgesTest::besideHalf);
        sentence("11: and that rounded into the register", ReckoningEdgesTest::wholeTwice);
        sentence("11: the ternary and the inexact flag are about the result beside a", ReckoningEdgesTest::wholeBesideA);
        sentence("11: a zero has the sign of a; infinities stay", ReckoningEdgesTest::wholeSpecials);
        sentence("12: n (1 .. 16) registers from first on, none above 15", ReckoningEdgesTest::sumRows);
        sentence("12: rounded once", ReckoningEdgesTest::sumOnce);
        sentence("12: infinities of both signs, and no NaN", ReckoningEdgesTest::sumInvalid);
        sentence("13: n (1 .. 16) registers from first on with as many from second on", ReckoningEdgesTest::dotRows);
        sentence("13: rounded once", ReckoningEdgesTest::dotOnce);
        sentence("13: a zero times an infinity, and no NaN", ReckoningEdgesTest::dotZeroTimesInfinity);
        sentence("13: infinite products of both signs, and no NaN", ReckoningEdgesTest::dotInvalid);
        finish("edges of promises 1 to 13");
    }

    private static void newObject() {
        for (int r : new int[] {0, 15}) {
            due("precision", x.look(r, 0), 64);
            due("kind", x.look(r, 1), 0);
        }
        due("flags", x.flags(false), 0);
        due("out", x.octet(-1), 0);
        tapeHas(0);
        gives("least, not gradual", x.number(0, 1, -16386, 4), 0, "1 +1b-16385 5");
        due("greatest", x.range(-1, 1, false), 16384);
    }

    private static void precision() {
        for (int p : new int[] {2, 4096, 64}) {
            x.number(15, 9, 0, 0);
            x.number(14, 7, 0, 0);
            x.precision(15, p);
            due("precision", x.look(15, 0), p);
            due("holds", show(15), "NaN");
            due("the one beside it holds", show(14), "+7b0");
        }
        x.number(15, 9, 0, 0);
        x.precision(15, 64);
        due("the same precision again", show(15), "NaN");
        x.precision(15, 2);
        x.flags(true);
        gives("3 in two bits", x.number(15, 3, 0, 0), 15, "0 +3b0 0");
        gives("5 in two bits", x.number(15, 5, 0, 1), 15, "-1 +1b2 1");
    }

    private static void precisionBefore() {
        due("the first", x.precision(0, 2), 64);
        due("the least", x.precision(0, 4096), 2);
        due("the greatest", x.precision(0, 4096), 4096);
        throwing(ARGUMENT, "precision(0, 4097)", () -> x.precision(0, 4097));
        due("after a refused one", x.precision(0, 2), 4096);
    }

    private static void rangeEnds() {
        due("the widest", x.range(-16384, 16384, false), 16384);
        due("the least alone", x.range(-16384, -16384, false), 16384);
        gives("the only power of two", x.number(0, 1, -16385, 0), 0, "0 +1b-16385 0");
        gives("the next", x.number(0, 1, -16384, 0), 0, "1 +inf 3");
        due("the greatest alone", x.range(16384, 16384, false), -16384);
        gives("the only power of two", x.number(0, 1, 16383, 0), 0, "0 +1b16383 0");
        gives("the one before", x.number(0, 1, 16382, 0), 0, "-1 +0 5");
        due("least and greatest the same", x.range(0, 0, true), 16384);
        throwing(ARGUMENT, "least one above greatest", () -> x.range(1, 0, true));
        throwing(ARGUMENT, "least too low", () -> x.range(-16385, 0, true));
        throwing(ARGUMENT, "greatest too high", () -> x.range(0, 16385, true));
        due("what stood before", x.range(0, 0, true), 0);
    }

    private static void rangeKeeps() {
        x.precision(0, 4096);
        x.number(0, -5, 16000, 0);
        x.number(1, 5, -16000, 0);
        x.range(0, 0, false);
        due("above the range", show(0), "-5b16000");
        due("below the range", show(1), "+5b-16000");
        due("they are compared", x.compare(1, 0), 1);
        gives("and reckoned with", x.reckon(2, 2, 0, 1, 1), 2, "1 -18446744073709551615b-64 3");
        due("flags", x.flags(false), 0);
    }

    private static void rangeBefore() {
        due("the first", x.range(-7, 9, true), 16384);
        due("the second", x.range(-3, -2, true), 9);
        throwing(ARGUMENT, "a refused one", () -> x.range(2, 1, true));
        due("the third", x.range(5, 6, false), -2);
    }

    private static void flags() {
        specials();
        x.precision(6, 2);
        x.number(6, 5, 0, 0);
        x.number(6, 1, 40000, 0);
        x.number(6, 1, -40000, 0);
        x.reckon(3, 7, 3, 3, 0);
        x.reckon(3, 7, 5, 3, 0);
        throwing(UNSUPPORTED, "compare", () -> x.compare(0, 0));
        due("all, not taken", x.flags(false), 63);
        due("all, taken", x.flags(true), 63);
        due("none", x.flags(true), 0);
        due("none", x.flags(false), 0);
    }

    private static void numberEnds() {
        gives("the least long", x.number(0, Long.MIN_VALUE, 0, 0), 0, "0 -1b63 0");
        gives("the greatest long", x.number(0, Long.MAX_VALUE, 0, 0), 0, "0 +9223372036854775807b0 0");
        gives("the least long above it", x.number(0, Long.MIN_VALUE + 1, 0, 0), 0, "0 -9223372036854775807b0 0");
        x.precision(0, 62);
        gives("the greatest long in 62 bits", x.number(0, Long.MAX_VALUE, 0, 0), 0, "1 +1b63 1");
        gives("minus 1", x.number(0, -1, 0, 3), 0, "0 -1b0 0");
        x.precision(0, 2);
        gives("the greatest scale", x.number(0, Long.MAX_VALUE, 40000, 3), 0, "-1 +3b16382 3");
        gives("the least scale", x.number(0, Long.MIN_VALUE, -40000, 3), 0, "-1 -1b-16385 5");
        gives("a scale that leads just into the range", x.number(0, 1L << 62, -16447, 0), 0, "0 +1b-16385 0");
        gives("and just below", x.number(0, 1L << 62, -16448, 0), 0, "-1 +0 5");
    }

    private static void numberZero() {
        for (int mode = 0; mode <= 4; mode++) {
            gives("mode " + mode, x.number(0, 0, 0, mode), 0, "0 +0 0");
        }
        gives("the greatest scale", x.number(0, 0, 40000, 0), 0, "0 +0 0");
        gives("the least scale", x.number(0, 0, -40000, 4), 0, "0 +0 0");
    }

    private static void copyHow() {
        specials();
        x.number(6, -6, 0, 0);
        String[] held = {"NaN", "+inf", "-inf", "+0", "-0", "+3b1", "-3b1"};
        for (int a = 1; a <= 6; a++) {
            String size = held[a].substring(1);
            String other = (held[a].startsWith("-") ? "+" : "-") + size;
            gives("as it is", x.copy(7, a, 0, 3), 7, "0 " + held[a] + " 0");
            gives("negated", x.copy(7, a, 1, 3), 7, "0 " + other + " 0");
            gives("without its sign", x.copy(7, a, 2, 3), 7, "0 +" + size + " 0");
        }
    }

    private static void copyNan() {
        for (int how = 0; how <= 2; how++) {
            x.number(7, 1, 0, 0);
            gives("how " + how, x.copy(7, 0, how, 4), 7, "0 NaN 0");
        }
        throwing(NONE, "no sign", () -> x.look(7, 2));
    }

    /** The mode is about the float with its new sign. */
    private static void copyRounds() {
        x.precision(0, 2);
        x.number(1, -5, 0, 0);
        gives("as it is, up", x.copy(0, 1, 0, 2), 0, "1 -1b2 1");
        gives("negated, up", x.copy(0, 1, 1, 2), 0, "1 +3b1 1");
        gives("without its sign, down", x.copy(0, 1, 2, 3), 0, "-1 +1b2 1");
        x.range(0, 2, false);
        gives("out of the range", x.copy(1, 1, 0, 1), 1, "1 -" + ones(64) + "b-62 3");
        x.range(4, 9, true);
        gives("below a gradual range, and no multiple", x.copy(1, 1, 0, 0), 1, "-1 -1b2 5");
        gives("below a gradual range, but a multiple", x.copy(1, 1, 0, 0), 1, "0 -1b2 0");
    }

    private static BigInteger ones(int p) {
        return BigInteger.ONE.shiftLeft(p).subtract(BigInteger.ONE);
    }

    /** The greatest and the least number of the range in one sum. */
    private static void widestSums() {
        x.precision(0, 4096);
        x.precision(1, 4096);
        x.fromDouble(1, PLUS_INFINITY, 0);
        x.neighbour(1, false);
        x.number(2, 1, -16385, 0);
        due("the greatest and the least", x.reckon(0, 0, 1, 2, 0), -1);
        due("is the greatest", x.compare(0, 1), 0);
        due("flags", x.flags(true), 1);
        due("up", x.reckon(0, 0, 1, 2, 2), 1);
        due("is the infinity", show(0), "+inf");
        due("flags", x.flags(true), 3);
        due("less the least, toward 0", x.reckon(1, 0, 1, 2, 1), -1);
        x.neighbour(0, true);
        due("is the one before", x.compare(0, 1), 0);
        x.neighbour(2, true);
        x.number(3, 1, -16385, 0);
        x.flags(true);
        gives("neighbours less each other: below the range", x.reckon(1, 0, 2, 3, 0), 0, "-1 +0 5");
        x.range(-16384, 16384, true);
        x.precision(0, 64);
        gives("the same if it is gradual", x.reckon(1, 0, 2, 3, 0), 0, "0 +1b-16448 0");
    }

    private static void productsAndQuotients() {
        x.precision(0, 2);
        x.number(1, 3, 0, 0);
        x.number(2, 5, 0, 0);
        x.number(3, 2, 0, 0);
        gives("3 * 5 is nearer to 16 than to 12", x.reckon(2, 0, 1, 2, 0), 0, "1 +1b4 1");
        gives("5 / 2 is half way", x.reckon(3, 0, 2, 3, 0), 0, "-1 +1b1 1");
        gives("5 / 2, away", x.reckon(3, 0, 2, 3, 4), 0, "1 +3b0 1");
        gives("3 / 2", x.reckon(3, 0, 1, 3, 0), 0, "0 +3b-1 0");
        x.fromDouble(1, PLUS_INFINITY, 0);
        x.neighbour(1, false);
        gives("the greatest squared, toward 0", x.reckon(2, 0, 1, 1, 1), 0, "-1 +3b16382 3");
        x.number(2, 1, -16385, 0);
        gives("the least squared", x.reckon(2, 0, 2, 2, 0), 0, "-1 +0 5");
        gives("the greatest by the least", x.reckon(3, 0, 1, 2, 0), 0, "1 +inf 3");
        gives("the least by the greatest, up", x.reckon(3, 0, 2, 1, 2), 0, "1 +1b-16385 5");
        gives("a number by itself", x.reckon(3, 0, 1, 1, 0), 0, "0 +1b0 0");
        x.precision(0, 4096);
        x.precision(3, 4096);
        x.number(3, 1, 0, 0);
        x.neighbour(3, false);
        due("(1 - 2^-4096)^2", x.reckon(2, 0, 3, 3, 0), -1);
        due("its last word", x.word(0, 0), 0xFFFFFFFEL);
        x.number(4, 1, 0, 0);
        due("1 / (1 - 2^-4096), toward 0", x.reckon(3, 0, 4, 3, 1), -1);
        due("is 1", show(0), "+1b0");
        due("1 / (1 - 2^-4096), nearest: just above half way", x.reckon(3, 0, 4, 3, 0), 1);
        due("its lowest bit", x.word(0, 0), 1);
    }

    /** x in halves of y, with the remainder in halves of y that is due. */
    private static void nearestMultiple() {
        x.number(1, 2, 0, 0);
        int[] halves = {1, 2, 3, 4, 5, 6, 7, -1, -3, -5, -7};
        String[] rests = {"+1b0", "+0", "-1b0", "+0", "+1b0", "+0", "-1b0", "-1b0", "+1b0", "-1b0", "+1b0"};
        for (int i = 0; i < halves.length; i++) {
            x.number(0, halves[i], 0, 0);
            gives(halves[i] + " rem 2", x.reckon(4, 2, 0, 1, 0), 2, "0 " + rests[i] + " 0");
            x.copy(3, 1, 1, 0);
            gives(halves[i] + " rem -2", x.reckon(4, 2, 0, 3, 0), 2, "0 " + rests[i] + " 0");
        }
        x.precision(0, 200);
        x.number(0, 1, 0, 0);
        x.neighbour(0, false);
        gives("just below the half of 2", x.reckon(4, 0, 0, 1, 0), 0, "0 +" + ones(200) + "b-200 0");
        x.number(0, 1, 0, 0);
        x.neighbour(0, true);
        x.precision(2, 200);
        gives("just above it", x.reckon(4, 2, 0, 1, 0), 2, "0 -" + ones(199) + "b-199 0");
        x.number(0, 3, 0, 0);
        x.neighbour(0, false);
        due("just below 3 halves", x.reckon(4, 2, 0, 1, 0) + show(2).substring(0, 1), "0+");
    }

    private static void multipleBelow() {
        x.number(1, 2, 0, 0);
        int[] wholes = {1, 2, 3, 4, 5, -1, -2, -3, -4, -5};
        String[] rests = {"+1b0", "+0", "+1b0", "+0", "+1b0", "-1b0", "-0", "-1b0", "-0", "-1b0"};
        for (int i = 0; i < wholes.length; i++) {
            x.number(0, wholes[i], 0, 0);
            gives(wholes[i] + " rem 2", x.reckon(5, 2, 0, 1, 0), 2, "0 " + rests[i] + " 0");
            x.copy(3, 1, 1, 0);
            gives(wholes[i] + " rem -2", x.reckon(5, 2, 0, 3, 0), 2, "0 " + rests[i] + " 0");
        }
        x.precision(0, 200);
        x.number(0, 2, 0, 0);
        x.neighbour(0, false);
        gives("just below 2", x.reckon(5, 0, 0, 1, 0), 0, "0 +" + ones(200) + "b-199 0");
    }

    private static void widestRemainders() {
        x.number(0, 1, 16383, 0);
        x.number(1, 3, -16386, 0);
        // 2^32769 by 3 leaves 2, which is -1 beside the nearest.
        gives("toward 0", x.reckon(5, 2, 0, 1, 0), 2, "0 +1b-16385 0");
        gives("nearest", x.reckon(4, 2, 0, 1, 1), 2, "1 -0 5");
        gives("the other way round", x.reckon(4, 2, 1, 0, 0), 2, "0 +3b-16386 0");
        gives("and toward 0", x.reckon(5, 2, 1, 0, 0), 2, "0 +3b-16386 0");
        x.precision(2, 2);
        x.number(0, 5, 0, 0);
        x.number(1, 100, 0, 0);
        gives("rounded", x.reckon(5, 2, 0, 1, 2), 2, "1 +3b1 1");
    }

    private static void hypotenuse() {
        x.number(1, 3, 0, 0);
        x.number(2, -4, 0, 0);
        x.precision(0, 2);
        gives("5 in two bits: half way", x.reckon(6, 0, 1, 2, 0), 0, "-1 +1b2 1");
        gives("5 in two bits, up", x.reckon(6, 0, 1, 2, 2), 0, "1 +3b1 1");
        x.precision(0, 3);
        gives("5 in three bits", x.reckon(6, 0, 1, 2, 3), 0, "0 +5b0 0");
        x.number(1, 1, 16383, 0);
        gives("1.41 times the greatest power", x.reckon(6, 0, 1, 1, 0), 0, "1 +3b16382 1");
        x.number(2, 1, -16385, 0);
        gives("the greatest power and the least number, up", x.reckon(6, 0, 1, 2, 2), 0, "1 +5b16381 1");
        gives("and toward 0", x.reckon(6, 0, 1, 2, 1), 0, "-1 +1b16383 1");
        gives("the least with itself: 1.41 times", x.reckon(6, 0, 2, 2, 1), 0, "-1 +5b-16387 1");
        x.number(3, 7, 16381, 0);
        gives("the greatest of three bits with itself", x.reckon(6, 0, 3, 3, 1), 0, "-1 +7b16381 3");
        x.fromDouble(4, MINUS_ZERO, 0);
        x.number(5, -9, 0, 0);
        gives("a zero and -9, rounded, down", x.reckon(6, 0, 4, 5, 3), 0, "-1 +1b3 1");
        gives("-9 and a zero, rounded, up", x.reckon(6, 0, 5, 4, 2), 0, "1 +5b1 1");
    }

    private static void invalid(String what, int ternary, int r) {
        gives(what, ternary, r, "0 NaN 8");
    }

    private static void infinitiesAdded() {
        specials();
        for (int mode = 0; mode <= 4; mode++) {
            invalid("inf + -inf", x.reckon(0, 6, 1, 2, mode), 6);
            invalid("-inf + inf", x.reckon(0, 6, 2, 1, mode), 6);
            invalid("inf - inf", x.reckon(1, 6, 1, 1, mode), 6);
            invalid("-inf - -inf", x.reckon(1, 6, 2, 2, mode), 6);
            gives("inf + inf", x.reckon(0, 6, 1, 1, mode), 6, "0 +inf 0");
            gives("-inf + -inf", x.reckon(0, 6, 2, 2, mode), 6, "0 -inf 0");
            gives("inf - -inf", x.reckon(1, 6, 1, 2, mode), 6, "0 +inf 0");
            gives("-inf - inf", x.reckon(1, 6, 2, 1, mode), 6, "0 -inf 0");
        }
    }

    private static void zeroTimesInfinity() {
        specials();
        for (int zero : new int[] {3, 4}) {
            for (int infinity : new int[] {1, 2}) {
                invalid("zero times infinity", x.reckon(2, 6, zero, infinity, 0), 6);
                invalid("infinity times zero", x.reckon(2, 6, infinity, zero, 0), 6);
            }
        }
    }

    private static void infiniteProducts() {
        specials();
        x.number(6, -1, -16385, 0);
        for (int mode = 0; mode <= 4; mode++) {
            gives("inf * 6", x.reckon(2, 7, 1, 5, mode), 7, "0 +inf 0");
            gives("6 * -inf", x.reckon(2, 7, 5, 2, mode), 7, "0 -inf 0");
            gives("-inf * the least below 0", x.reckon(2, 7, 2, 6, mode), 7, "0 +inf 0");
            gives("inf * -inf", x.reckon(2, 7, 1, 2, mode), 7, "0 -inf 0");
            gives("inf by 6", x.reckon(3, 7, 1, 5, mode), 7, "0 +inf 0");
            gives("inf by the least below 0", x.reckon(3, 7, 1, 6, mode), 7, "0 -inf 0");
        }
    }

    private static void noQuotient() {
        specials();
        for (int a : new int[] {3, 4}) {
            for (int b : new int[] {3, 4}) {
                invalid("zero by zero", x.reckon(3, 6, a, b, 0), 6);
                invalid("infinity by infinity", x.reckon(3, 6, a - 2, b - 2, 0), 6);
            }
        }
    }

    private static void noRemainder() {
        specials();
        for (int operation = 4; operation <= 5; operation++) {
            for (int other = 1; other <= 5; other++) {
                invalid("infinity rem", x.reckon(operation, 6, 1, other, 0), 6);
                invalid("-infinity rem", x.reckon(operation, 6, 2, other, 0), 6);
                invalid("rem 0", x.reckon(operation, 6, other, 3, 0), 6);
                invalid("rem -0", x.reckon(operation, 6, other, 4, 0), 6);
            }
        }
    }

    private static void byZero() {
        specials();
        x.number(6, -6, 0, 0);
        for (int mode = 0; mode <= 4; mode++) {
            gives("6 / 0", x.reckon(3, 7, 5, 3, mode), 7, "0 +inf 16");
            gives("6 / -0", x.reckon(3, 7, 5, 4, mode), 7, "0 -inf 16");
            gives("-6 / 0", x.reckon(3, 7, 6, 3, mode), 7, "0 -inf 16");
            gives("-6 / -0", x.reckon(3, 7, 6, 4, mode), 7, "0 +inf 16");
        }
    }

    private static void infinityByZero() {
        specials();
        gives("inf / 0", x.reckon(3, 7, 1, 3, 0), 7, "0 +inf 0");
        gives("inf / -0", x.reckon(3, 7, 1, 4, 0), 7, "0 -inf 0");
        gives("-inf / 0", x.reckon(3, 7, 2, 3, 0), 7, "0 -inf 0");
        gives("-inf / -0", x.reckon(3, 7, 2, 4, 0), 7, "0 +inf 0");
    }

    private static void byInfinity() {
        specials();
        gives("6 / inf", x.reckon(3, 7, 5, 1, 3), 7, "0 +0 0");
        gives("6 / -inf", x.reckon(3, 7, 5, 2, 2), 7, "0 -0 0");
        gives("0 / -inf", x.reckon(3, 7, 3, 2, 0), 7, "0 -0 0");
        gives("-0 / -inf", x.reckon(3, 7, 4, 2, 0), 7, "0 +0 0");
    }

    private static void remainderByInfinity() {
        specials();
        x.precision(7, 2);
        x.number(5, -5, 0, 0);
        for (int operation = 4; operation <= 5; operation++) {
            for (int infinity : new int[] {1, 2}) {
                gives("-5", x.reckon(operation, 7, 5, infinity, 3), 7, "-1 -3b1 1");
                gives("-5", x.reckon(operation, 7, 5, infinity, 2), 7, "1 -1b2 1");
                gives("0", x.reckon(operation, 7, 3, infinity, 3), 7, "0 +0 0");
                gives("-0", x.reckon(operation, 7, 4, infinity, 2), 7, "0 -0 0");
            }
        }
    }

    private static void zeroRemainder() {
        specials();
        x.number(6, -6, 0, 0);
        x.number(7, 18, 0, 0);
        x.number(8, -18, 0, 0);
        for (int operation = 4; operation <= 5; operation++) {
            for (int mode = 0; mode <= 4; mode++) {
                gives("18 rem 6", x.reckon(operation, 9, 7, 5, mode), 9, "0 +0 0");
                gives("18 rem -6", x.reckon(operation, 9, 7, 6, mode), 9, "0 +0 0");
                gives("-18 rem 6", x.reckon(operation, 9, 8, 5, mode), 9, "0 -0 0");
                gives("-18 rem -6", x.reckon(operation, 9, 8, 6, mode), 9, "0 -0 0");
                gives("0 rem -6", x.reckon(operation, 9, 3, 6, mode), 9, "0 +0 0");
                gives("-0 rem 6", x.reckon(operation, 9, 4, 5, mode), 9, "0 -0 0");
            }
        }
    }

    private static void infiniteHypotenuse() {
        specials();
        for (int other = 0; other <= 5; other++) {
            for (int infinity : new int[] {1, 2}) {
                gives("infinity first", x.reckon(6, 7, infinity, other, 3), 7, "0 +inf 0");
                gives("infinity second", x.reckon(6, 7, other, infinity, 1), 7, "0 +inf 0");
            }
        }
    }

    private static void zeroHypotenuse() {
        specials();
        for (int mode = 0; mode <= 4; mode++) {
            for (int a : new int[] {3, 4}) {
                gives("zeros", x.reckon(6, 7, a, 3, mode), 7, "0 +0 0");
                gives("zeros", x.reckon(6, 7, a, 4, mode), 7, "0 +0 0");
            }
        }
    }

    private static void fusedOnce() {
        x.precision(0, 2);
        x.number(1, 5, 0, 0);
        x.number(2, 1, -16385, 0);
        x.number(3, 1, 0, 0);
        gives("5 * 1 + the least: above half way", x.fused(0, 1, 3, 2, 0), 0, "1 +3b1 1");
        x.copy(4, 2, 1, 0);
        gives("5 * 1 - the least: below it", x.fused(0, 1, 3, 4, 0), 0, "-1 +1b2 1");
        x.number(5, 1, 16383, 0);
        x.number(6, -1, 16384, 1);
        x.flags(true);
        x.precision(0, 64);
        x.number(7, 2, 0, 0);
        gives("a product above the range, less the greatest number", x.fused(0, 5, 7, 6, 0), 0, "0 +1b16320 0");
        x.precision(0, 2);
        gives("a product that is below the range, and the least number", x.fused(0, 2, 2, 2, 1), 0, "-1 +1b-16385 1");
    }

    private static void fusedZeroTimesInfinity() {
        specials();
        for (int c = 0; c <= 5; c++) {
            String want = c == 0 ? "0 NaN 0" : "0 NaN 8";
            gives("0 * inf + register " + c, x.fused(6, 3, 1, c, 0), 6, want);
            gives("-inf * -0 + register " + c, x.fused(6, 2, 4, c, 0), 6, want);
        }
    }

    private static void fusedInfinities() {
        specials();
        x.number(6, -6, 0, 0);
        invalid("inf * 6 + -inf", x.fused(7, 1, 5, 2, 0), 7);
        invalid("6 * -inf + inf", x.fused(7, 5, 2, 1, 0), 7);
        invalid("-inf * -6 + -inf", x.fused(7, 2, 6, 2, 0), 7);
        invalid("inf * inf + -inf", x.fused(7, 1, 1, 2, 0), 7);
        gives("inf * 6 + inf", x.fused(7, 1, 5, 1, 0), 7, "0 +inf 0");
        gives("inf * -6 + -inf", x.fused(7, 1, 6, 2, 0), 7, "0 -inf 0");
        gives("inf * 6 + 0", x.fused(7, 1, 5, 3, 0), 7, "0 +inf 0");
        gives("6 * 6 + -inf", x.fused(7, 5, 5, 2, 0), 7, "0 -inf 0");
        gives("inf * 6 + NaN", x.fused(7, 1, 5, 0, 0), 7, "0 NaN 0");
    }

    private static void rootDegrees() {
        x.number(1, -6, 0, 0);
        gives("the first is the number", x.root(0, 1, 1, 0), 0, "0 -3b1 0");
        for (int n = 1; n <= 32; n++) {
            x = new TrueFloats();
            x.number(2, 3, 0, 0);
            x.number(4, 1, n, 0);
            gives("of 2^" + n, x.root(0, 4, n, 0), 0, "0 +1b1 0");
            x.neighbour(4, true);
            gives("of a little more", x.root(0, 4, n, 3), 0, n == 1 ? "0 +9223372036854775809b-62 0" : "-1 +1b1 1");
            x.power(4, 2, n, 0);
            gives("of 3^" + n, x.root(0, 4, n, 0), 0, "0 +3b0 0");
        }
    }

    private static void rootRounds() {
        x.precision(0, 2);
        x.number(1, 25, 0, 0);
        String[] ofFive = {"-1 +1b2 1", "-1 +1b2 1", "1 +3b1 1", "-1 +1b2 1", "1 +3b1 1"};
        String[] ofMinusFive = {"1 -1b2 1", "1 -1b2 1", "1 -1b2 1", "-1 -3b1 1", "-1 -3b1 1"};
        x.number(2, -125, 0, 0);
        for (int mode = 0; mode <= 4; mode++) {
            gives("of 25: half way, mode " + mode, x.root(0, 1, 2, mode), 0, ofFive[mode]);
            gives("third of -125, mode " + mode, x.root(0, 2, 3, mode), 0, ofMinusFive[mode]);
        }
        x.neighbour(1, true);
        gives("a little more than 25", x.root(0, 1, 2, 0), 0, "1 +3b1 1");
        x.number(1, 25, 0, 0);
        x.neighbour(1, false);
        gives("a little less than 25", x.root(0, 1, 2, 0), 0, "-1 +1b2 1");
        x.number(1, 1, -16385, 0);
        gives("of the least number", x.root(0, 1, 5, 0), 0, "0 +1b-3277 0");
        x.number(1, 1, -2, 0);
        x.range(1, 9, false);
        gives("below the range", x.root(0, 1, 2, 2), 0, "1 +1b0 5");
        x.number(1, 2, 0, 0);
        gives("in it", x.root(0, 1, 2, 3), 0, "-1 +1b0 1");
        x.number(1, 16, 0, 0);
        x.range(-9, 2, false);
        gives("above it", x.root(0, 1, 2, 0), 0, "1 +inf 3");
    }

    private static void rootItself() {
        specials();
        for (int n = 1; n <= 32; n++) {
            gives("of 0", x.root(7, 3, n, 3), 7, "0 +0 0");
            gives("of -0", x.root(7, 4, n, 2), 7, "0 -0 0");
            gives("of inf", x.root(7, 1, n, 1), 7, "0 +inf 0");
        }
    }

    private static void rootInvalid() {
        specials();
        x.number(6, -1, 0, 0);
        for (int n = 1; n <= 32; n++) {
            gives("of -inf, " + n, x.root(7, 2, n, 0), 7, n % 2 == 0 ? "0 NaN 8" : "0 -inf 0");
            gives("of -1, " + n, x.root(7, 6, n, 0), 7, n % 2 == 0 ? "0 NaN 8" : "0 -1b0 0");
        }
    }

    private static void powerEnds() {
        for (int n = -32; n <= 32; n++) {
            x = new TrueFloats();
            x.precision(0, 2);
            x.number(1, -2, 0, 0);
            x.number(2, 1, 0, 0);
            String sign = n % 2 == 0 ? "+" : "-";
            gives("(-2)^" + n, x.power(0, 1, n, 0), 0, "0 " + sign + "1b" + n + " 0");
            gives("1^" + n, x.power(0, 2, n, 0), 0, "0 +1b0 0");
        }
        x.precision(0, 64);
        x.number(1, 3, 0, 0);
        gives("3^32", x.power(0, 1, 32, 0), 0, "0 +1853020188851841b0 0");
        gives("3^1", x.power(0, 1, 1, 0), 0, "0 +3b0 0");
        x.precision(0, 50);
        gives("3^32 in 50 bits: half way", x.power(0, 1, 32, 0), 0, "-1 +14476720225405b7 1");
        gives("3^32 in 50 bits, up", x.power(0, 1, 32, 2), 0, "1 +926510094425921b1 1");
        x.precision(0, 2);
        gives("3^-32, up", x.power(0, 1, -32, 2), 0, "1 +3b-52 1");
        gives("3^-1", x.power(0, 1, -1, 0), 0, "1 +3b-3 1");
    }

    private static void powerZero() {
        specials();
        for (int a = 0; a <= 5; a++) {
            for (int mode = 0; mode <= 4; mode++) {
                gives("of register " + a, x.power(7, a, 0, mode), 7, "0 +1b0 0");
            }
        }
    }

    private static void powerSpecials() {
        specials();
        for (int n : new int[] {1, 2, 31, 32}) {
            String sign = n % 2 == 0 ? "+" : "-";
            gives("0^" + n, x.power(7, 3, n, 3), 7, "0 +0 0");
            gives("(-0)^" + n, x.power(7, 4, n, 2), 7, "0 " + sign + "0 0");
            gives("inf^" + n, x.power(7, 1, n, 1), 7, "0 +inf 0");
            gives("(-inf)^" + n, x.power(7, 2, n, 1), 7, "0 " + sign + "inf 0");
            gives("inf^-" + n, x.power(7, 1, -n, 4), 7, "0 +0 0");
            gives("(-inf)^-" + n, x.power(7, 2, -n, 4), 7, "0 " + sign + "0 0");
        }
    }

    private static void powerByZero() {
        specials();
        for (int n : new int[] {1, 2, 31, 32}) {
            String sign = n % 2 == 0 ? "+" : "-";
            gives("0^-" + n, x.power(7, 3, -n, 3), 7, "0 +inf 16");
            gives("(-0)^-" + n, x.power(7, 4, -n, 2), 7, "0 " + sign + "inf 16");
        }
    }

    private static void powerOut() {
        x.precision(0, 2);
        x.number(1, -1, 512, 0);
        gives("2^16384", x.power(0, 1, 32, 0), 0, "1 +inf 3");
        gives("2^15872", x.power(0, 1, 31, 0), 0, "0 -1b15872 0");
        gives("2^-16384", x.power(0, 1, -32, 0), 0, "0 +1b-16384 0");
        x.number(1, -1, 528, 0);
        gives("-2^-16368", x.power(0, 1, -31, 0), 0, "0 -1b-16368 0");
        gives("2^-16896, away", x.power(0, 1, -32, 4), 0, "1 +1b-16385 5");
        x.range(-9, 0, false);
        gives("1 is above the range", x.power(0, 15, 0, 1), 0, "-1 +3b-2 3");
        x.range(3, 9, false);
        gives("1 is below the range", x.power(0, 15, 0, 0), 0, "-1 +0 5");
    }

    private static void ways() {
        int[] halves = {1, 3, 5, -1, -3, -5, 4, -4};
        String[][] wants = {
            {"-1 +0 1", "-1 +0 1", "1 +1b0 1", "-1 +0 1", "1 +1b0 1"},
            {"1 +1b1 1", "-1 +1b0 1", "1 +1b1 1", "-1 +1b0 1", "1 +1b1 1"},
            {"-1 +1b1 1", "-1 +1b1 1", "1 +3b0 1", "-1 +1b1 1", "1 +3b0 1"},
            {"1 -0 1", "1 -0 1", "1 -0 1", "-1 -1b0 1", "-1 -1b0 1"},
            {"-1 -1b1 1", "1 -1b0 1", "1 -1b0 1", "-1 -1b1 1", "-1 -1b1 1"},
            {"1 -1b1 1", "1 -1b1 1", "1 -1b1 1", "-1 -3b0 1", "-1 -3b0 1"},
            {"0 +1b1 0", "0 +1b1 0", "0 +1b1 0", "0 +1b1 0", "0 +1b1 0"},
            {"0 -1b1 0", "0 -1b1 0", "0 -1b1 0", "0 -1b1 0", "0 -1b1 0"}};
        for (int i = 0; i < halves.length; i++) {
            for (int way = 0; way <= 4; way++) {
                x.number(1, halves[i], -1, 0);
                gives(halves[i] + " halves, way " + way, x.whole(0, 1, way, 0), 0, wants[i][way]);
            }
        }
    }

    /** With 4096 bits, and the least number: neither is taken for a half or for an integer. */
    private static void besideHalf() {
        x.precision(1, 4096);
        String[] below = {"-1 +0 1", "-1 +0 1", "1 +1b0 1", "-1 +0 1", "-1 +0 1"};
        String[] above = {"1 +1b0 1", "-1 +0 1", "1 +1b0 1", "-1 +0 1", "1 +1b0 1"};
        String[] aboveOne = {"-1 +1b0 1", "-1 +1b0 1", "1 +1b1 1", "-1 +1b0 1", "-1 +1b0 1"};
        for (int way = 0; way <= 4; way++) {
            x.number(1, 1, -1, 0);
            x.neighbour(1, false);
            gives("below a half, way " + way, x.whole(0, 1, way, 0), 0, below[way]);
            x.number(1, 1, -1, 0);
            x.neighbour(1, true);
            gives("above a half, way " + way, x.whole(0, 1, way, 0), 0, above[way]);
            x.number(1, 1, 0, 0);
            x.neighbour(1, true);
            gives("above 1, way " + way, x.whole(0, 1, way, 0), 0, aboveOne[way]);
            x.number(1, 1, -16385, 0);
            gives("the least number, way " + way, x.whole(0, 1, way, 0), 0, below[way]);
            x.number(1, 3, 16382, 0);
            gives("the greatest integers, way " + way, x.whole(0, 1, way, 0), 0, "0 +3b16382 0");
        }
    }

    private static void wholeTwice() {
        x.precision(0, 2);
        x.number(1, 9, -1, 0);
        gives("4.5, up to 5, which is half way to 6", x.whole(0, 1, 2, 0), 0, "-1 +1b2 1");
        gives("4.5, up to 5, up to 6", x.whole(0, 1, 2, 2), 0, "1 +3b1 1");
        x.number(1, 13, -1, 0);
        gives("6.5, down to 6", x.whole(0, 1, 3, 0), 0, "-1 +3b1 1");
        gives("6.5, up to 7, half way to 8", x.whole(0, 1, 2, 0), 0, "1 +1b3 1");
        x.range(-5, 2, false);
        x.number(1, 7, -1, 0);
        gives("3.5, up to 4, over the range", x.whole(0, 1, 2, 0), 0, "1 +inf 3");
        gives("3.5, down to 3", x.whole(0, 1, 3, 0), 0, "-1 +3b0 1");
        x.range(4, 9, false);
        gives("3.5, down to 3, below the range", x.whole(0, 1, 3, 0), 0, "-1 +0 5");
    }

    private static void wholeBesideA() {
        x.precision(0, 2);
        x.range(-5, 1, false);
        x.number(1, 3, -1, 0);
        gives("1.5 up to 2, over the range, and so 1.5 again", x.whole(0, 1, 2, 1), 0, "0 +3b-1 2");
        x.range(-5, 9, false);
        x.number(1, 19, -2, 0);
        gives("4.75 up to 5, down to 4", x.whole(0, 1, 2, 3), 0, "-1 +1b2 1");
        x.number(1, 21, -2, 0);
        gives("5.25 down to 5, up to 6", x.whole(0, 1, 3, 2), 0, "1 +3b1 1");
        x.number(1, 5, 0, 0);
        gives("5, rounded", x.whole(0, 1, 0, 0), 0, "-1 +1b2 1");
        x.precision(0, 64);
        x.number(1, 5, -1, 0);
        gives("2.5 to 2, which needs no rounding", x.whole(0, 1, 0, 0), 0, "-1 +1b1 1");
        x.range(4, 9, true);
        gives("2.5 to 2, which is a multiple in a gradual range", x.whole(0, 1, 0, 0), 0, "-1 +1b1 1");
    }

    private static void wholeSpecials() {
        specials();
        x.number(6, -1, -2, 0);
        x.number(7, 1, -2, 0);
        for (int way = 0; way <= 4; way++) {
            for (int mode = 0; mode <= 4; mode++) {
                gives("0", x.whole(8, 3, way, mode), 8, "0 +0 0");
                gives("-0", x.whole(8, 4, way, mode), 8, "0 -0 0");
                gives("inf", x.whole(8, 1, way, mode), 8, "0 +inf 0");
                gives("-inf", x.whole(8, 2, way, mode), 8, "0 -inf 0");
            }
            gives("-0.25", x.whole(8, 6, way, 2), 8, way == 3 ? "-1 -1b0 1" : "1 -0 1");
            gives("0.25", x.whole(8, 7, way, 3), 8, way == 2 ? "1 +1b0 1" : "-1 +0 1");
        }
    }

    /** Register r holds 2^r, so that a sum tells which were added. */
    private static void powersInAll() {
        x = new TrueFloats();
        for (int r = 0; r <= 15; r++) {
            x.number(r, 1, r, 0);
        }
    }

    private static void sumRows() {
        for (int first = 0; first <= 15; first++) {
            for (int n : new int[] {1, 16 - first}) {
                powersInAll();
                int want = (1 << n) - 1;
                gives("sum of " + n + " from " + first, x.sum(15, first, n, 0), 15, "0 +" + want + "b" + first + " 0");
            }
        }
        powersInAll();
        throwing(ARGUMENT, "17 from 0", () -> x.sum(0, 0, 17, 0));
        throwing(ARGUMENT, "16 from 1", () -> x.sum(0, 1, 16, 0));
        throwing(ARGUMENT, "2 from 15", () -> x.sum(0, 15, 2, 0));
        throwing(ARGUMENT, "none from 0", () -> x.sum(0, 0, 0, 0));
        due("nothing was added", show(0), "+1b0");
    }

    private static void sumOnce() {
        x.precision(15, 2);
        x.fromDouble(0, PLUS_INFINITY, 0);
        x.neighbour(0, false);
        x.copy(1, 0, 0, 0);
        x.copy(2, 0, 1, 0);
        x.copy(3, 0, 1, 0);
        x.number(4, 5, 0, 0);
        x.number(5, 1, -16385, 0);
        gives("what is above the range on the way, 5 and the least", x.sum(15, 0, 6, 0), 15, "1 +3b1 1");
        x.copy(5, 5, 1, 0);
        gives("and 5 less the least", x.sum(15, 0, 6, 0), 15, "-1 +1b2 1");
        x.number(5, 1, 0, 0);
        x.neighbour(5, false);
        x.number(4, -1, 0, 0);
        gives("all but the last bit cancels", x.sum(15, 0, 6, 0), 15, "0 -1b-64 0");
        gives("all of it in down", x.sum(15, 0, 4, 3), 15, "0 -0 0");
    }

    private static void sumInvalid() {
        specials();
        x.copy(6, 2, 0, 0);
        invalid("inf, -inf and others", x.sum(7, 1, 5, 0), 7);
        invalid("inf and -inf", x.sum(7, 1, 2, 0), 7);
        gives("with NaN", x.sum(7, 0, 3, 0), 7, "0 NaN 0");
        gives("-inf twice", x.sum(7, 2, 5, 0), 7, "0 -inf 0");
        gives("one", x.sum(7, 1, 1, 3), 7, "0 +inf 0");
    }

    private static void dotRows() {
        for (int n = 1; n <= 16; n++) {
            powersInAll();
            int last = 16 - n;
            // The products of 2^i and 2^(last + i) are 2^(last + 2 i).
            long want = ((1L << 2 * n - 1 << 1) - 1) / 3;
            gives(n + " from 0 and the last", x.dot(15, 0, last, n, 0), 15, "0 +" + want + "b" + last + " 0");
            powersInAll();
            gives(n + " from the last and 0", x.dot(14, last, 0, n, 0), 14, "0 +" + want + "b" + last + " 0");
        }
    }

    private static void dotOnce() {
        x.precision(15, 2);
        x.number(0, 1, 16383, 0);
        x.number(1, 5, 0, 0);
        x.number(2, 1, -16385, 0);
        x.number(3, -1, 16383, 0);
        x.number(4, 1, 16383, 0);
        x.number(5, 1, 0, 0);
        x.number(6, 1, -16385, 0);
        x.number(7, 1, 16383, 0);
        gives("2^32766 - 2^32766 + 5 + 2^-32770", x.dot(15, 0, 4, 4, 0), 15, "1 +3b1 1");
        x.copy(6, 6, 1, 0);
        gives("2^32766 - 2^32766 + 5 - 2^-32770", x.dot(15, 0, 4, 4, 0), 15, "-1 +1b2 1");
        x.number(1, -1, 0, 0);
        x.number(5, 1, 0, 0);
        x.number(2, 1, 0, 0);
        x.number(6, 1, 0, 0);
        for (int mode = 0; mode <= 4; mode++) {
            gives("all cancels", x.dot(15, 0, 4, 4, mode), 15, mode == 3 ? "0 -0 0" : "0 +0 0");
        }
    }

    private static void dotZeroTimesInfinity() {
        specials();
        x.number(6, 1, 0, 0);
        x.copy(7, 1, 0, 0);
        invalid("inf * 0", x.dot(8, 1, 3, 1, 0), 8);
        invalid("-0 * -inf", x.dot(8, 4, 2, 1, 0), 8);
        invalid("0 * 1 + -0 * inf", x.dot(8, 3, 6, 2, 0), 8);
        invalid("inf * -0 + -inf * 6", x.dot(8, 1, 4, 2, 0), 8);
        gives("NaN * -inf + inf * 0", x.dot(8, 0, 2, 2, 0), 8, "0 NaN 0");
    }

    private static void dotInvalid() {
        specials();
        x.number(6, -6, 0, 0);
        x.copy(7, 1, 0, 0);
        x.copy(8, 1, 0, 0);
        invalid("6 * inf + -6 * inf", x.dot(9, 5, 7, 2, 0), 9);
        invalid("inf * inf + -inf * inf", x.dot(9, 1, 7, 2, 0), 9);
        gives("6 * inf", x.dot(9, 5, 7, 1, 0), 9, "0 +inf 0");
        gives("-6 * inf", x.dot(9, 6, 7, 1, 0), 9, "0 -inf 0");
        gives("inf * inf + -inf * -inf", x.dot(9, 1, 1, 2, 0), 9, "0 +inf 0");
        gives("NaN beside both", x.dot(9, 0, 6, 3, 0), 9, "0 NaN 0");
        invalid("both without it", x.dot(9, 1, 7, 2, 0), 9);
    }
}
