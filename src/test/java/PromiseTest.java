import java.math.BigInteger;

/** Each promise of the document: ordinary inputs, the edges that it names, and wrong inputs. */
public final class PromiseTest extends Checks {
    public static void main(String[] args) {
        begin("1 a new object");
        newObject();
        begin("2 precision");
        precision();
        begin("3 range");
        range();
        begin("4 flags");
        flags();
        begin("terms: rounding");
        rounding();
        begin("terms: rounding, gradual");
        roundingGradually();
        begin("5 number");
        number();
        begin("6 copy");
        copy();
        begin("7 reckon");
        reckon();
        begin("7 reckon, specials");
        reckonSpecials();
        begin("8 fused");
        fused();
        begin("9 root");
        root();
        begin("10 power");
        power();
        begin("11 whole");
        whole();
        begin("12 sum");
        sum();
        begin("13 dot");
        dot();
        begin("14 neighbour");
        neighbour();
        begin("15 compare");
        compare();
        begin("16 look");
        look();
        begin("17 word");
        word();
        begin("18 fromDouble");
        fromDouble();
        begin("19 toDouble");
        toDouble();
        begin("20 toLong");
        toLong();
        begin("21 feed");
        feed();
        begin("22 end");
        end();
        begin("23 read");
        read();
        begin("23 read, what is no float");
        readNothing();
        begin("24 write");
        write();
        begin("25 octet");
        octet();
        finish("promises");
    }

    private static void newObject() {
        for (int r = 0; r < 16; r++) {
            due("look(" + r + ", 0)", x.look(r, 0), 64);
            due("look(" + r + ", 1)", x.look(r, 1), 0);
        }
        due("flags", x.flags(false), 0);
        due("octet(-1)", x.octet(-1), 0);
        due("end(0)", x.end(0), 0);
        gives("the least number", x.number(0, 1, -16385, 0), 0, "0 +1b-16385 0");
        gives("below it, away", x.number(0, 1, -16386, 4), 0, "1 +1b-16385 5");
        gives("below it", x.number(0, 1, -16386, 0), 0, "-1 +0 5");
        gives("the greatest power of two", x.number(0, 1, 16383, 0), 0, "0 +1b16383 0");
        gives("above it", x.number(0, 1, 16384, 0), 0, "1 +inf 3");
        due("range", x.range(0, 1, true), 16384);
    }

    private static void precision() {
        x.number(3, 7, 0, 0);
        due("precision(3, 2)", x.precision(3, 2), 64);
        due("held", show(3), "NaN");
        due("precision(3, 4096)", x.precision(3, 4096), 2);
        due("precision(3, 4096)", x.precision(3, 4096), 4096);
        due("precision(0, 9)", x.precision(0, 9), 64);
        due("precision of another", x.look(1, 0), 64);
        x.number(3, 7, 0, 0);
        for (int p : new int[] {1, 0, -1, 4097, Integer.MAX_VALUE, Integer.MIN_VALUE}) {
            refuses(ARGUMENT, "precision(3, " + p + ")", () -> x.precision(3, p));
        }
        for (int r : new int[] {-1, 16, Integer.MAX_VALUE, Integer.MIN_VALUE}) {
            refuses(ARGUMENT, "precision(" + r + ", 5)", () -> x.precision(r, 5));
        }
    }

    private static void range() {
        x.number(0, 5, 100, 0);
        due("range(-5, 7, true)", x.range(-5, 7, true), 16384);
        due("what is out of the range stays", show(0), "+5b100");
        due("range(-5, -5, false)", x.range(-5, -5, false), 7);
        gives("one exponent", x.number(1, 1, -6, 0), 1, "0 +1b-6 0");
        gives("above", x.number(1, 1, -5, 0), 1, "1 +inf 3");
        refuses(ARGUMENT, "range(-4, -5, false)", () -> x.range(-4, -5, false));
        refuses(ARGUMENT, "range(-16385, 0, true)", () -> x.range(-16385, 0, true));
        refuses(ARGUMENT, "range(0, 16385, true)", () -> x.range(0, 16385, true));
        refuses(ARGUMENT, "range(16385, 16385, true)", () -> x.range(16385, 16385, true));
        refuses(ARGUMENT, "range(-16385, -16385, true)", () -> x.range(-16385, -16385, true));
        gives("as before the wrong ones", x.number(1, 1, -7, 1), 1, "-1 +0 5");
        due("range(-16384, 16384, false)", x.range(-16384, 16384, false), -5);
        due("range(16384, 16384, false)", x.range(16384, 16384, false), 16384);
    }

    private static void flags() {
        due("none", x.flags(true), 0);
        x.precision(0, 2);
        x.number(0, 5, 0, 0);
        due("inexact", x.flags(false), 1);
        due("still", x.flags(false), 1);
        x.number(1, 1, 20000, 0);
        due("and overflow", x.flags(false), 3);
        x.number(0, 4, 0, 0);
        due("they stay", x.flags(true), 3);
        due("taken", x.flags(false), 0);
        x.number(2, 1, -20000, 0);
        due("underflow and inexact", x.flags(true), 5);
        x.number(3, 1, 0, 0);
        x.reckon(3, 4, 2, 2, 0);
        due("invalid", x.flags(false), 8);
        x.reckon(3, 4, 3, 2, 0);
        due("and by zero", x.flags(false), 24);
        throwing(UNSUPPORTED, "compare", () -> x.compare(3, 15));
        due("and order", x.flags(false), 56);
        x.number(0, 5, 20000, 0);
        x.number(0, 5, -20000, 0);
        due("all", x.flags(true), 63);
        due("none again", x.flags(true), 0);
    }

    private static void rounding() {
        String[] five = {"-1 +1b2 1", "-1 +1b2 1", "1 +3b1 1", "-1 +1b2 1", "1 +3b1 1"};
        String[] minusFive = {"1 -1b2 1", "1 -1b2 1", "1 -1b2 1", "-1 -3b1 1", "-1 -3b1 1"};
        String[] seven = {"1 +1b3 1", "-1 +3b1 1", "1 +1b3 1", "-1 +3b1 1", "1 +1b3 1"};
        String[] minusNine = {"1 -1b3 1", "1 -1b3 1", "1 -1b3 1", "-1 -3b2 1", "-1 -3b2 1"};
        // Above the greatest number, and 2^(least - 2) and a little more, which is the half of the least number.
        String[] seventyOne = {"1 +inf 3", "-1 +3b2 3", "1 +inf 3", "-1 +3b2 3", "1 +inf 3"};
        String[] minusSixteen = {"-1 -inf 3", "1 -3b2 3", "1 -3b2 3", "-1 -inf 3", "-1 -inf 3"};
        String[] half = {"-1 +0 5", "-1 +0 5", "1 +1b-5 5", "-1 +0 5", "1 +1b-5 5"};
        String[] overHalf = {"1 +1b-5 5", "-1 +0 5", "1 +1b-5 5", "-1 +0 5", "1 +1b-5 5"};
        String[] minusOverHalf = {"-1 -1b-5 5", "1 -0 5", "1 -0 5", "-1 -1b-5 5", "-1 -1b-5 5"};
        String[] minusTiny = {"1 -0 5", "1 -0 5", "1 -0 5", "-1 -1b-5 5", "-1 -1b-5 5"};
        // 7 * 2^-8 becomes the least number by its two bits alone, or stays below.
        String[] nearly = {"1 +1b-5 1", "-1 +0 5", "1 +1b-5 1", "-1 +0 5", "1 +1b-5 1"};
        x.precision(0, 2);
        x.range(-4, 4, false);
        for (int mode = 0; mode < 5; mode++) {
            gives("5, mode " + mode, x.number(0, 5, 0, mode), 0, five[mode]);
            gives("-5, mode " + mode, x.number(0, -5, 0, mode), 0, minusFive[mode]);
            gives("7, mode " + mode, x.number(0, 7, 0, mode), 0, seven[mode]);
            gives("-9, mode " + mode, x.number(0, -9, 0, mode), 0, minusNine[mode]);
            gives("6, mode " + mode, x.number(0, 6, 0, mode), 0, "0 +3b1 0");
            gives("71, mode " + mode, x.number(0, 71, 0, mode), 0, seventyOne[mode]);
            gives("-16, mode " + mode, x.number(0, -16, 0, mode), 0, minusSixteen[mode]);
            gives("12, mode " + mode, x.number(0, 12, 0, mode), 0, "0 +3b2 0");
            gives("2^-5, mode " + mode, x.number(0, 1, -5, mode), 0, "0 +1b-5 0");
            gives("2^-6, mode " + mode, x.number(0, 1, -6, mode), 0, half[mode]);
            gives("65 * 2^-12, mode " + mode, x.number(0, 65, -12, mode), 0, overHalf[mode]);
            gives("-65 * 2^-12, mode " + mode, x.number(0, -65, -12, mode), 0, minusOverHalf[mode]);
            gives("-2^-40, mode " + mode, x.number(0, -1, -40, mode), 0, minusTiny[mode]);
            gives("7 * 2^-8, mode " + mode, x.number(0, 7, -8, mode), 0, nearly[mode]);
        }
        gives("14 is half way to 16", x.number(0, 14, 0, 0), 0, "1 +inf 3");
        gives("13 is not", x.number(0, 13, 0, 0), 0, "-1 +3b2 1");
        gives("7, to the nearest, of two the even one", x.number(0, 7, 0, 0), 0, "1 +1b3 1");
    }

    private static void roundingGradually() {
        x.precision(0, 3);
        x.range(-4, 4, true);
        String[] minusFive = {"1 -1b-5 5", "1 -1b-5 5", "1 -1b-5 5", "-1 -3b-6 5", "-1 -3b-6 5"};
        String[] half = {"-1 +0 5", "-1 +0 5", "1 +1b-7 5", "-1 +0 5", "1 +1b-7 5"};
        String[] threeHalves = {"1 +1b-6 5", "-1 +1b-7 5", "1 +1b-6 5", "-1 +1b-7 5", "1 +1b-6 5"};
        String[] tiny = {"1 -0 5", "1 -0 5", "1 -0 5", "-1 -1b-7 5", "-1 -1b-7 5"};
        String[] nearly = {"1 +1b-5 5", "-1 +3b-7 5", "1 +1b-5 5", "-1 +3b-7 5", "1 +1b-5 5"};
        for (int mode = 0; mode < 5; mode++) {
            gives("the least, mode " + mode, x.number(0, 1, -7, mode), 0, "0 +1b-7 0");
            gives("3 of them, mode " + mode, x.number(0, -3, -7, mode), 0, "0 -3b-7 0");
            gives("its half, mode " + mode, x.number(0, 1, -8, mode), 0, half[mode]);
            gives("3 halves, mode " + mode, x.number(0, 3, -8, mode), 0, threeHalves[mode]);
            gives("a tiny one, mode " + mode, x.number(0, -1, -900, mode), 0, tiny[mode]);
            gives("7 halves, mode " + mode, x.number(0, 7, -8, mode), 0, nearly[mode]);
            gives("above the least exponent, mode " + mode, x.number(0, 5, -7, mode), 0, "0 +5b-7 0");
        }
        x.precision(0, 2);
        for (int mode = 0; mode < 5; mode++) {
            gives("-5 * 2^-7, mode " + mode, x.number(0, -5, -7, mode), 0, minusFive[mode].replace(" 5", " 1"));
        }
        gives("the greatest", x.number(0, 13, 0, 3), 0, "-1 +3b2 1");
        gives("over it", x.number(0, 16, 0, 3), 0, "-1 +3b2 3");
    }

    private static void number() {
        gives("0", x.number(0, 0, 40000, 3), 0, "0 +0 0");
        gives("the least long", x.number(0, Long.MIN_VALUE, 0, 0), 0, "0 -1b63 0");
        gives("the greatest long", x.number(0, Long.MAX_VALUE, -63, 0), 0, "0 +" + Long.MAX_VALUE + "b-63 0");
        gives("a scale", x.number(0, 12, -1002, 0), 0, "0 +3b-1000 0");
        gives("the greatest scale", x.number(0, 3, 40000, 1), 0,
            "-1 +18446744073709551615b16320 3");
        gives("the least scale", x.number(0, -3, -40000, 2), 0, "1 -0 5");
        x.number(0, 3, 0, 0);
        refuses(ARGUMENT, "scale 40001", () -> x.number(0, 1, 40001, 0));
        refuses(ARGUMENT, "scale -40001", () -> x.number(0, 1, -40001, 0));
        refuses(ARGUMENT, "mode -1", () -> x.number(0, 1, 0, -1));
        refuses(ARGUMENT, "mode 5", () -> x.number(0, 0, 0, 5));
        refuses(ARGUMENT, "register 16", () -> x.number(16, 1, 0, 0));
        refuses(ARGUMENT, "register -1", () -> x.number(-1, 1, 0, 0));
    }

    private static void copy() {
        specials();
        x.precision(6, 2);
        x.number(7, -5, 0, 0);
        gives("rounded", x.copy(6, 7, 0, 0), 6, "1 -1b2 1");
        gives("negated", x.copy(6, 7, 1, 2), 6, "1 +3b1 1");
        gives("without its sign", x.copy(6, 7, 2, 4), 6, "1 +3b1 1");
        gives("a positive one without its sign", x.copy(6, 5, 2, 0), 6, "0 +3b1 0");
        gives("NaN", x.copy(6, 0, 1, 0), 6, "0 NaN 0");
        gives("infinity negated", x.copy(6, 1, 1, 0), 6, "0 -inf 0");
        gives("infinity without sign", x.copy(6, 2, 2, 0), 6, "0 +inf 0");
        gives("zero negated", x.copy(6, 3, 1, 0), 6, "0 -0 0");
        gives("minus zero negated", x.copy(6, 4, 1, 0), 6, "0 +0 0");
        gives("minus zero", x.copy(6, 4, 0, 0), 6, "0 -0 0");
        gives("minus zero without sign", x.copy(6, 4, 2, 0), 6, "0 +0 0");
        gives("onto itself", x.copy(7, 7, 1, 0), 7, "0 +5b0 0");
        x.range(-2, 2, false);
        gives("what is out of the range now", x.copy(7, 7, 1, 0), 7, "-1 -inf 3");
        refuses(ARGUMENT, "how 3", () -> x.copy(6, 7, 3, 0));
        refuses(ARGUMENT, "how -1", () -> x.copy(6, 7, -1, 0));
        refuses(ARGUMENT, "mode 5", () -> x.copy(6, 0, 0, 5));
        refuses(ARGUMENT, "register 16", () -> x.copy(6, 16, 0, 0));
        refuses(ARGUMENT, "register -1", () -> x.copy(-1, 6, 0, 0));
    }

    private static void reckon() {
        x.number(0, 7, 0, 0);
        x.number(1, -2, 0, 0);
        x.number(2, 3, 0, 0);
        gives("7 + -2", x.reckon(0, 4, 0, 1, 0), 4, "0 +5b0 0");
        gives("7 - -2", x.reckon(1, 4, 0, 1, 0), 4, "0 +9b0 0");
        gives("7 * -2", x.reckon(2, 4, 0, 1, 0), 4, "0 -7b1 0");
        gives("7 / -2", x.reckon(3, 4, 0, 1, 0), 4, "0 -7b-1 0");
        gives("7 rem -2, nearest", x.reckon(4, 4, 0, 1, 0), 4, "0 -1b0 0");
        gives("7 rem -2, toward 0", x.reckon(5, 4, 0, 1, 0), 4, "0 +1b0 0");
        gives("7 rem 3, nearest", x.reckon(4, 4, 0, 2, 0), 4, "0 +1b0 0");
        gives("-2 rem 3, nearest", x.reckon(4, 4, 1, 2, 0), 4, "0 +1b0 0");
        gives("-2 rem 3, toward 0", x.reckon(5, 4, 1, 2, 0), 4, "0 -1b1 0");
        gives("-2 rem -2", x.reckon(4, 4, 1, 1, 0), 4, "0 -0 0");
        x.number(3, 3, -1, 0);
        gives("1.5 rem 3: half, the even 0", x.reckon(4, 4, 3, 2, 0), 4, "0 +3b-1 0");
        x.number(3, 9, -1, 0);
        gives("4.5 rem 3: half, the even 2", x.reckon(4, 4, 3, 2, 0), 4, "0 -3b-1 0");
        x.number(3, 1, 10000, 0);
        gives("2^10000 rem 7", x.reckon(5, 4, 3, 0, 0), 4, "0 +1b1 0");
        gives("7 rem 2^10000", x.reckon(5, 4, 0, 3, 0), 4, "0 +7b0 0");
        x.number(5, 12, 0, 0);
        x.number(6, -5, 0, 0);
        gives("the root of 144 + 25", x.reckon(6, 4, 5, 6, 0), 4, "0 +13b0 0");
        x.precision(4, 2);
        gives("13 in two bits", x.reckon(6, 4, 5, 6, 0), 4, "-1 +3b2 1");
        gives("7 + 3, up", x.reckon(0, 4, 0, 2, 2), 4, "1 +3b2 1");
        gives("1 / 3", x.reckon(3, 4, 2, 0, 1), 4, "-1 +3b-3 1");
        gives("onto an operand", x.reckon(2, 0, 0, 0, 0), 0, "0 +49b0 0");
        x.number(0, 5, 0, 0);
        x.number(1, 5, 0, 0);
        for (int mode = 0; mode < 5; mode++) {
            gives("5 - 5, mode " + mode, x.reckon(1, 4, 0, 1, mode), 4, mode == 3 ? "0 -0 0" : "0 +0 0");
        }
        gives("2^10000 + 5, toward 0", x.reckon(0, 4, 3, 0, 1), 4, "-1 +1b10000 1");
        gives("5 - 2^10000, up", x.reckon(1, 4, 0, 3, 2), 4, "1 -3b9998 1");
        for (int bad : new int[] {-1, 7}) {
            refuses(ARGUMENT, "operation " + bad, () -> x.reckon(bad, 0, 1, 2, 0));
        }
        refuses(ARGUMENT, "register 16", () -> x.reckon(0, 16, 1, 2, 0));
        refuses(ARGUMENT, "a -1", () -> x.reckon(0, 0, -1, 2, 0));
        refuses(ARGUMENT, "b 16", () -> x.reckon(0, 0, 1, 16, 0));
        refuses(ARGUMENT, "mode 5", () -> x.reckon(0, 0, 1, 2, 5));
    }

    /** A row for each operation: what x (NaN, inf, -inf, 0, -0, 6) with y (the same) gives in mode 0. */
    private static void reckonSpecials() {
        String[] sums = {
            "N N N N N N", "N inf ! inf inf inf", "N ! -inf -inf -inf -inf",
            "N inf -inf 0 0 6", "N inf -inf 0 -0 6", "N inf -inf 6 6 12"};
        String[] differences = {
            "N N N N N N", "N ! inf inf inf inf", "N -inf ! -inf -inf -inf",
            "N -inf inf 0 0 -6", "N -inf inf -0 0 -6", "N -inf inf 6 6 0"};
        String[] products = {
            "N N N N N N", "N inf -inf ! ! inf", "N -inf inf ! ! -inf",
            "N ! ! 0 -0 0", "N ! ! -0 0 -0", "N inf -inf 0 -0 36"};
        String[] quotients = {
            "N N N N N N", "N ! ! inf -inf inf", "N ! ! -inf inf -inf",
            "N 0 -0 ! ! 0", "N -0 0 ! ! -0", "N 0 -0 /inf /-inf 1"};
        String[] remainders = {
            "N N N N N N", "N ! ! ! ! !", "N ! ! ! ! !",
            "N 0 0 ! ! 0", "N -0 -0 ! ! -0", "N 6 6 ! ! 0"};
        String[] hypotenuses = {
            "N inf inf N N N", "inf inf inf inf inf inf", "inf inf inf inf inf inf",
            "N inf inf 0 0 6", "N inf inf 0 0 6", "N inf inf 6 6 h"};
        String[][] tables = {sums, differences, products, quotients, remainders, remainders, hypotenuses};
        for (int operation = 0; operation < 7; operation++) {
            for (int a = 0; a < 6; a++) {
                String[] row = tables[operation][a].split(" ");
                for (int b = 0; b < 6; b++) {
                    specials();
                    int ternary = x.reckon(operation, 8, a, b, 0);
                    gives("operation " + operation + " of " + show(a) + " and " + show(b), ternary, 8, meaning(row[b]));
                    specials();
                    x.reckon(operation, a, a, b, 0);
                    due("the same onto its operand", show(a), show(8));
                }
            }
        }
        specials();
        x.flags(true);
        gives("0 + -0, down", x.reckon(0, 8, 3, 4, 3), 8, "0 -0 0");
        gives("0 + 0, down", x.reckon(0, 8, 3, 3, 3), 8, "0 +0 0");
        gives("0 - 0, down", x.reckon(1, 8, 3, 3, 3), 8, "0 -0 0");
        x.precision(8, 2);
        x.number(5, 5, 0, 0);
        gives("5 rem inf, rounded", x.reckon(4, 8, 5, 1, 2), 8, "1 +3b1 1");
        gives("5 rem -inf, rounded", x.reckon(5, 8, 5, 2, 1), 8, "-1 +1b2 1");
        gives("the root of 5 5 + 0 0, rounded", x.reckon(6, 8, 5, 4, 4), 8, "1 +3b1 1");
    }

    private static String meaning(String cell) {
        switch (cell) {
            case "N":
                return "0 NaN 0";
            case "!":
                return "0 NaN 8";
            case "h":
                // 6 times the root of 2, to 64 bits.
                return rootOf72() + " 1";
            default:
                break;
        }
        boolean byZero = cell.startsWith("/");
        String text = byZero ? cell.substring(1) : cell;
        String sign = text.startsWith("-") ? "-" : "+";
        String size = text.startsWith("-") ? text.substring(1) : text;
        if (!size.equals("inf") && !size.equals("0")) {
            int value = Integer.parseInt(size);
            int zeros = Integer.numberOfTrailingZeros(value);
            size = (value >> zeros) + "b" + zeros;
        }
        return "0 " + sign + size + (byZero ? " 16" : " 0");
    }

    private static String rootOf72() {
        BigInteger twice = BigInteger.valueOf(72).shiftLeft(2 * 61).sqrt();
        BigInteger m = twice.add(BigInteger.ONE).shiftRight(1);
        int zeros = m.getLowestSetBit();
        return (twice.testBit(0) ? "1" : "-1") + " +" + m.shiftRight(zeros) + "b" + (zeros - 60);
    }

    private static void fused() {
        specials();
        x.number(6, 7, 0, 0);
        x.number(7, -42, 0, 0);
        x.number(8, 1, -100, 0);
        x.precision(9, 5);
        gives("6 * 7 + 6", x.fused(9, 5, 6, 5, 0), 9, "0 +3b4 0");
        gives("6 * 7 - 42", x.fused(9, 5, 6, 7, 0), 9, "0 +0 0");
        gives("6 * 7 - 42, down", x.fused(9, 5, 6, 7, 3), 9, "0 -0 0");
        gives("7 * 7 + a little: once", x.fused(9, 6, 6, 8, 0), 9, "1 +25b1 1");
        gives("7 * 7 + a little, toward 0", x.fused(9, 6, 6, 8, 1), 9, "-1 +3b4 1");
        gives("inf * 0 + 6", x.fused(9, 1, 3, 5, 0), 9, "0 NaN 8");
        gives("0 * -inf + inf", x.fused(9, 4, 2, 1, 0), 9, "0 NaN 8");
        gives("inf * 0 + NaN", x.fused(9, 1, 3, 0, 0), 9, "0 NaN 0");
        gives("inf * 6 + -inf", x.fused(9, 1, 5, 2, 0), 9, "0 NaN 8");
        gives("inf * 6 + inf", x.fused(9, 1, 5, 1, 0), 9, "0 +inf 0");
        gives("-inf * 6 + 6", x.fused(9, 2, 5, 5, 0), 9, "0 -inf 0");
        gives("6 * 6 + -inf", x.fused(9, 5, 5, 2, 0), 9, "0 -inf 0");
        gives("NaN * 6 + 6", x.fused(9, 0, 5, 5, 0), 9, "0 NaN 0");
        gives("6 * NaN + 6", x.fused(9, 5, 0, 5, 0), 9, "0 NaN 0");
        gives("0 * -42 + -0", x.fused(9, 3, 7, 4, 0), 9, "0 -0 0");
        gives("0 * 6 + -0", x.fused(9, 3, 5, 4, 0), 9, "0 +0 0");
        gives("0 * 6 + -0, down", x.fused(9, 3, 5, 4, 3), 9, "0 -0 0");
        gives("-0 * 6 + 6", x.fused(9, 4, 5, 5, 0), 9, "0 +3b1 0");
        gives("onto an operand", x.fused(5, 5, 5, 5, 0), 5, "0 +21b1 0");
        x.range(-10, 5, false);
        gives("over the range", x.fused(9, 6, 6, 6, 1), 9, "-1 +31b0 3");
        for (int i = 0; i < 5; i++) {
            int[] at = {1, 1, 1, 1, 0};
            at[i] = i == 4 ? 5 : 16;
            refuses(ARGUMENT, "argument " + i, () -> x.fused(at[0], at[1], at[2], at[3], at[4]));
        }
    }

    private static void root() {
        specials();
        x.precision(6, 8);
        x.number(7, -27, 0, 0);
        x.number(8, 2, 0, 0);
        gives("the third of -27", x.root(6, 7, 3, 0), 6, "0 -3b0 0");
        gives("the first of -27", x.root(6, 7, 1, 0), 6, "0 -27b0 0");
        gives("the second of -27", x.root(6, 7, 2, 0), 6, "0 NaN 8");
        gives("the second of 2", x.root(6, 8, 2, 0), 6, "-1 +181b-7 1");
        gives("the second of 2, up", x.root(6, 8, 2, 2), 6, "1 +91b-6 1");
        gives("the 32nd of 2", x.root(6, 8, 32, 1), 6, "-1 +65b-6 1");
        x.precision(9, 64);
        x.number(9, 1, 16352, 0);
        gives("the 32nd of 2^16352", x.root(6, 9, 32, 4), 6, "0 +1b511 0");
        x.neighbour(9, true);
        gives("the 32nd of a little more", x.root(6, 9, 32, 4), 6, "1 +129b504 1");
        gives("the 32nd of a little more, nearest", x.root(6, 9, 32, 0), 6, "-1 +1b511 1");
        x.neighbour(9, false);
        x.neighbour(9, false);
        gives("the 32nd of a little less", x.root(6, 9, 32, 1), 6, "-1 +255b503 1");
        gives("the first, rounded", x.root(6, 9, 1, 1), 6, "-1 +255b16344 1");
        // (16 + 1/2)^2 is half way between two numbers of 5 bits.
        x.precision(6, 5);
        x.number(9, 1089, -2, 0);
        gives("16.5", x.root(6, 9, 2, 0), 6, "-1 +1b4 1");
        gives("16.5, up", x.root(6, 9, 2, 2), 6, "1 +17b0 1");
        for (int n : new int[] {1, 2, 3, 32}) {
            gives("of NaN", x.root(6, 0, n, 0), 6, "0 NaN 0");
            gives("of inf", x.root(6, 1, n, 0), 6, "0 +inf 0");
            gives("of -inf", x.root(6, 2, n, 0), 6, n % 2 == 0 ? "0 NaN 8" : "0 -inf 0");
            gives("of 0", x.root(6, 3, n, 0), 6, "0 +0 0");
            gives("of -0", x.root(6, 4, n, 3), 6, "0 -0 0");
        }
        gives("onto itself", x.root(7, 7, 3, 0), 7, "0 -3b0 0");
        refuses(ARGUMENT, "n 0", () -> x.root(6, 7, 0, 0));
        refuses(ARGUMENT, "n 33", () -> x.root(6, 7, 33, 0));
        refuses(ARGUMENT, "mode 5", () -> x.root(6, 7, 3, 5));
        refuses(ARGUMENT, "register 16", () -> x.root(16, 7, 3, 0));
        refuses(ARGUMENT, "a -1", () -> x.root(6, -1, 3, 0));
    }

    private static void power() {
        specials();
        x.precision(6, 8);
        x.number(7, -3, 0, 0);
        gives("(-3)^5", x.power(6, 7, 5, 0), 6, "0 -243b0 0");
        gives("(-3)^4", x.power(6, 7, 4, 0), 6, "0 +81b0 0");
        gives("(-3)^0", x.power(6, 7, 0, 0), 6, "0 +1b0 0");
        gives("(-3)^6", x.power(6, 7, 6, 0), 6, "-1 +91b3 1");
        gives("(-3)^-1, up", x.power(6, 7, -1, 2), 6, "1 -85b-8 1");
        gives("(-3)^-2", x.power(6, 7, -2, 0), 6, "1 +57b-9 1");
        x.number(8, -2, 0, 0);
        gives("(-2)^-31", x.power(6, 8, -31, 0), 6, "0 -1b-31 0");
        gives("(-2)^32", x.power(6, 8, 32, 0), 6, "0 +1b32 0");
        x.precision(9, 4096);
        x.number(9, 1, 0, 0);
        x.neighbour(9, false);
        gives("(1 - 2^-4096)^32", x.power(6, 9, 32, 0), 6, "1 +1b0 1");
        gives("(1 - 2^-4096)^32, down", x.power(6, 9, 32, 3), 6, "-1 +255b-8 1");
        gives("(1 - 2^-4096)^-32, down", x.power(6, 9, -32, 3), 6, "-1 +1b0 1");
        gives("(1 - 2^-4096)^-32, up", x.power(6, 9, -32, 2), 6, "1 +129b-7 1");
        x.number(9, 1, 16000, 0);
        gives("over the range", x.power(6, 9, 2, 0), 6, "1 +inf 3");
        gives("below the range", x.power(6, 9, -2, 4), 6, "1 +1b-16385 5");
        for (int n : new int[] {1, 2, 31, 32}) {
            String odd = n % 2 == 0 ? "+" : "-";
            gives("of inf", x.power(6, 1, n, 0), 6, "0 +inf 0");
            gives("of -inf", x.power(6, 2, n, 0), 6, "0 " + odd + "inf 0");
            gives("of 0", x.power(6, 3, n, 0), 6, "0 +0 0");
            gives("of -0", x.power(6, 4, n, 0), 6, "0 " + odd + "0 0");
            gives("of inf, below", x.power(6, 1, -n, 0), 6, "0 +0 0");
            gives("of -inf, below", x.power(6, 2, -n, 0), 6, "0 " + odd + "0 0");
            gives("of 0, below", x.power(6, 3, -n, 0), 6, "0 +inf 16");
            gives("of -0, below", x.power(6, 4, -n, 0), 6, "0 " + odd + "inf 16");
            gives("of NaN", x.power(6, 0, n, 0), 6, "0 NaN 0");
        }
        for (int a = 0; a < 5; a++) {
            gives("0th", x.power(6, a, 0, 0), 6, "0 +1b0 0");
        }
        x.range(-9, 0, false);
        gives("1 out of the range", x.power(6, 0, 0, 1), 6, "-1 +255b-8 3");
        gives("onto itself", x.power(7, 7, -1, 0), 7, "-1 -12297829382473034411b-65 1");
        refuses(ARGUMENT, "n 33", () -> x.power(6, 7, 33, 0));
        refuses(ARGUMENT, "n -33", () -> x.power(6, 7, -33, 0));
        refuses(ARGUMENT, "mode -1", () -> x.power(6, 7, 0, -1));
        refuses(ARGUMENT, "register 16", () -> x.power(16, 7, 0, 0));
        refuses(ARGUMENT, "a 16", () -> x.power(6, 16, 0, 0));
    }

    private static void whole() {
        specials();
        x.number(6, 5, -1, 0);
        x.number(7, -7, -1, 0);
        x.number(8, -1, -2, 0);
        String[] ofFiveHalves = {"-1 +1b1 1", "-1 +1b1 1", "1 +3b0 1", "-1 +1b1 1", "1 +3b0 1"};
        String[] ofMinusSevenHalves = {"-1 -1b2 1", "1 -3b0 1", "1 -3b0 1", "-1 -1b2 1", "-1 -1b2 1"};
        String[] ofMinusQuarter = {"1 -0 1", "1 -0 1", "1 -0 1", "-1 -1b0 1", "1 -0 1"};
        for (int way = 0; way < 5; way++) {
            gives("2.5, way " + way, x.whole(9, 6, way, 0), 9, ofFiveHalves[way]);
            gives("-3.5, way " + way, x.whole(9, 7, way, 0), 9, ofMinusSevenHalves[way]);
            gives("-0.25, way " + way, x.whole(9, 8, way, 0), 9, ofMinusQuarter[way]);
            gives("6, way " + way, x.whole(9, 5, way, 0), 9, "0 +3b1 0");
            gives("NaN, way " + way, x.whole(9, 0, way, 0), 9, "0 NaN 0");
            gives("inf, way " + way, x.whole(9, 1, way, 0), 9, "0 +inf 0");
            gives("-inf, way " + way, x.whole(9, 2, way, 0), 9, "0 -inf 0");
            gives("0, way " + way, x.whole(9, 3, way, 3), 9, "0 +0 0");
            gives("-0, way " + way, x.whole(9, 4, way, 0), 9, "0 -0 0");
        }
        x.precision(9, 2);
        x.number(6, 9, -1, 0);
        gives("4.5, up: 5, and toward 0: 4", x.whole(9, 6, 2, 1), 9, "-1 +1b2 1");
        gives("4.5, up: 5, and up: 6", x.whole(9, 6, 2, 2), 9, "1 +3b1 1");
        x.number(6, 3, -1, 0);
        x.range(-9, 1, false);
        gives("1.5: 2, over the range, toward 0: 1.5 again", x.whole(9, 6, 0, 1), 9, "0 +3b-1 2");
        x.flags(true);
        x.reckon(3, 10, 6, 7, 0);
        due("inexact is set", x.flags(false), 1);
        gives("and stays set", x.whole(9, 6, 0, 1), 9, "0 +3b-1 3");
        x.range(5, 9, true);
        gives("1, below a gradual range", x.whole(9, 8, 3, 0), 9, "1 -0 5");
        gives("2, away below a gradual range", x.whole(9, 6, 0, 4), 9, "1 +1b3 5");
        gives("onto itself", x.whole(6, 6, 1, 0), 6, "-1 +1b0 1");
        refuses(ARGUMENT, "way 5", () -> x.whole(9, 8, 5, 0));
        refuses(ARGUMENT, "way -1", () -> x.whole(9, 8, -1, 0));
        refuses(ARGUMENT, "mode 5", () -> x.whole(9, 8, 0, 5));
        refuses(ARGUMENT, "register 16", () -> x.whole(16, 8, 0, 0));
        refuses(ARGUMENT, "a -1", () -> x.whole(9, -1, 0, 0));
    }

    private static void sum() {
        for (int r = 0; r < 16; r++) {
            x.number(r, r % 2 == 0 ? 1 : -1, 1000 * (r / 2), 0);
        }
        gives("all that cancel", x.sum(0, 0, 16, 0), 0, "0 +0 0");
        x.number(0, 3, -5000, 0);
        x.number(1, -1, -5000, 0);
        gives("once rounded", x.sum(15, 0, 14, 3), 15, "0 +1b-4999 0");
        gives("one", x.sum(14, 0, 1, 0), 14, "0 +3b-5000 0");
        x.precision(14, 2);
        x.number(2, 1, 0, 0);
        x.number(3, 1, -900, 0);
        x.number(4, 1, -1, 0);
        gives("halves and a little", x.sum(14, 2, 3, 0), 14, "-1 +3b-1 1");
        specials();
        gives("with NaN", x.sum(6, 0, 4, 0), 6, "0 NaN 0");
        gives("infinities of both signs", x.sum(6, 1, 4, 0), 6, "0 NaN 8");
        gives("-inf and zeros and 6", x.sum(6, 2, 4, 0), 6, "0 -inf 0");
        gives("zeros of both signs", x.sum(6, 3, 2, 0), 6, "0 +0 0");
        gives("zeros of both signs, down", x.sum(6, 3, 2, 3), 6, "0 -0 0");
        gives("the negative zero", x.sum(6, 4, 1, 2), 6, "0 -0 0");
        gives("the positive zero, down", x.sum(6, 3, 1, 3), 6, "0 +0 0");
        gives("zeros and 6", x.sum(6, 3, 3, 3), 6, "0 +3b1 0");
        refuses(ARGUMENT, "n 0", () -> x.sum(0, 0, 0, 0));
        refuses(ARGUMENT, "n 17", () -> x.sum(0, 0, 17, 0));
        refuses(ARGUMENT, "beyond 15", () -> x.sum(0, 1, 16, 0));
        refuses(ARGUMENT, "first 16", () -> x.sum(0, 16, 1, 0));
        refuses(ARGUMENT, "first -1", () -> x.sum(0, -1, 1, 0));
        refuses(ARGUMENT, "n far", () -> x.sum(0, 15, Integer.MAX_VALUE, 0));
        refuses(ARGUMENT, "mode 5", () -> x.sum(0, 0, 1, 5));
        refuses(ARGUMENT, "register -1", () -> x.sum(-1, 0, 1, 0));
    }

    private static void dot() {
        for (int r = 0; r < 16; r++) {
            x.number(r, r + 1, 0, 0);
        }
        x.precision(15, 5);
        x.number(15, 16, 0, 0);
        gives("the squares to 16", x.dot(14, 0, 0, 16, 0), 14, "0 +187b3 0");
        gives("1 * 5 + 2 * 6 + 3 * 7", x.dot(15, 0, 4, 3, 0), 15, "0 +19b1 0");
        gives("4 * 9 + 5 * 10", x.dot(15, 3, 8, 2, 2), 15, "1 +11b3 1");
        gives("one product", x.dot(15, 6, 6, 1, 0), 15, "-1 +3b4 1");
        specials();
        x.copy(6, 5, 1, 0);
        gives("NaN", x.dot(15, 0, 3, 2, 0), 15, "0 NaN 0");
        gives("inf * 0", x.dot(15, 1, 3, 1, 0), 15, "0 NaN 8");
        gives("NaN beside inf * 0", x.dot(15, 0, 2, 2, 0), 15, "0 NaN 0");
        gives("infinite products of both signs", x.dot(15, 1, 1, 1, 0), 15, "0 +inf 0");
        x.copy(7, 1, 0, 0);
        x.copy(8, 1, 0, 0);
        gives("6 * inf - 6 * inf", x.dot(15, 5, 7, 2, 0), 15, "0 NaN 8");
        gives("-6 * inf", x.dot(15, 6, 7, 1, 0), 15, "0 -inf 0");
        gives("0 * 6 + -0 * -6", x.dot(15, 3, 5, 2, 3), 15, "0 +0 0");
        gives("-0 * 6", x.dot(15, 4, 5, 1, 0), 15, "0 -0 0");
        x.number(9, 6, 0, 0);
        x.number(10, 6, 0, 0);
        gives("6 * 6 - 6 * 6, down", x.dot(15, 5, 9, 2, 3), 15, "0 -0 0");
        gives("6 * 6 - 6 * 6", x.dot(15, 5, 9, 2, 0), 15, "0 +0 0");
        refuses(ARGUMENT, "n 0", () -> x.dot(0, 0, 0, 0, 0));
        refuses(ARGUMENT, "n 17", () -> x.dot(0, 0, 0, 17, 0));
        refuses(ARGUMENT, "first beyond 15", () -> x.dot(0, 15, 0, 2, 0));
        refuses(ARGUMENT, "second beyond 15", () -> x.dot(0, 0, 15, 2, 0));
        refuses(ARGUMENT, "second -1", () -> x.dot(0, 0, -1, 2, 0));
        refuses(ARGUMENT, "second 16", () -> x.dot(0, 0, 16, 1, 0));
        refuses(ARGUMENT, "mode 5", () -> x.dot(0, 0, 0, 1, 5));
        refuses(ARGUMENT, "register 16", () -> x.dot(16, 0, 0, 1, 0));
    }

    private static void walk(int r, boolean up, String... wants) {
        for (String want : wants) {
            int kind = x.neighbour(r, up);
            due((up ? "above" : "below"), kind + " " + show(r) + " " + x.flags(false), want + " 0");
        }
    }

    private static void neighbour() {
        x.precision(0, 2);
        x.range(-1, 2, false);
        x.fromDouble(0, MINUS_INFINITY, 0);
        walk(0, true, "3 -3b0", "3 -1b1", "3 -3b-1", "3 -1b0", "3 -3b-2", "3 -1b-1", "3 -3b-3", "3 -1b-2", "2 -0",
            "3 +1b-2", "3 +3b-3", "3 +1b-1", "3 +3b-2", "3 +1b0", "3 +3b-1", "3 +1b1", "3 +3b0", "1 +inf", "1 +inf");
        walk(0, false, "3 +3b0", "3 +1b1", "3 +3b-1", "3 +1b0", "3 +3b-2", "3 +1b-1", "3 +3b-3", "3 +1b-2", "2 +0",
            "3 -1b-2", "3 -3b-3", "3 -1b-1", "3 -3b-2", "3 -1b0", "3 -3b-1", "3 -1b1", "3 -3b0", "1 -inf", "1 -inf");
        x.precision(0, 3);
        x.range(0, 1, true);
        x.fromDouble(0, MINUS_INFINITY, 0);
        walk(0, true, "3 -7b-2", "3 -3b-1", "3 -5b-2", "3 -1b0", "3 -7b-3", "3 -3b-2", "3 -5b-3", "3 -1b-1", "3 -3b-3",
            "3 -1b-2", "3 -1b-3", "2 -0", "3 +1b-3", "3 +1b-2", "3 +3b-3", "3 +1b-1", "3 +5b-3");
        walk(0, false, "3 +1b-1", "3 +3b-3", "3 +1b-2", "3 +1b-3", "2 +0", "3 -1b-3");
        // What is held may be out of the range.
        x.range(-100, 100, false);
        x.precision(1, 4);
        x.number(1, -11, -20, 0);
        x.copy(2, 1, 0, 0);
        x.precision(3, 4);
        x.number(3, 9, 50, 0);
        x.copy(4, 3, 1, 0);
        x.range(-12, 5, true);
        x.precision(5, 4);
        walk(1, true, "2 -0");
        x.range(-100, 100, false);
        x.precision(2, 4);
        x.number(2, 11, -20, 0);
        x.range(-15, 5, true);
        walk(2, false, "3 +5b-19");
        x.range(-100, 100, false);
        x.number(2, 11, -20, 0);
        x.range(-15, 5, true);
        walk(2, true, "3 +3b-18");
        x.range(-100, 100, false);
        x.number(2, 11, -20, 0);
        x.range(-15, 5, false);
        walk(2, true, "3 +1b-16");
        x.range(-100, 100, false);
        x.number(2, 11, -20, 0);
        x.range(-15, 5, false);
        walk(2, false, "2 +0");
        walk(3, true, "1 +inf");
        x.precision(4, 4);
        x.range(-100, 100, false);
        x.number(4, -9, 50, 0);
        x.range(-15, 5, false);
        walk(4, true, "3 -15b1");
        walk(5, true, "0 NaN");
        walk(5, false, "0 NaN");
        refuses(ARGUMENT, "register 16", () -> x.neighbour(16, true));
        refuses(ARGUMENT, "register -1", () -> x.neighbour(-1, false));
    }

    private static void compare() {
        x.precision(4, 200);
        x.precision(6, 3);
        x.number(5, 5, 0, 0);
        x.number(6, 5, 0, 0);
        x.fromDouble(0, MINUS_INFINITY, 0);
        x.number(1, -9, 0, 0);
        x.fromDouble(2, MINUS_ZERO, 0);
        x.fromDouble(3, 0, 0);
        x.copy(4, 5, 0, 0);
        x.neighbour(4, false);
        x.fromDouble(7, PLUS_INFINITY, 0);
        int[] place = {0, 1, 2, 2, 3, 4, 4, 5};
        for (int a = 0; a < 8; a++) {
            for (int b = 0; b < 8; b++) {
                due("compare(" + a + ", " + b + ")", x.compare(a, b), Integer.compare(place[a], place[b]));
            }
        }
        x.number(8, -5, 0, 0);
        due("-9 and -5", x.compare(1, 8), -1);
        due("flags", x.flags(false), 0);
        refuses(ARGUMENT, "register 16", () -> x.compare(16, 9));
        refuses(ARGUMENT, "register -1", () -> x.compare(9, -1));
        throwing(UNSUPPORTED, "NaN and 5", () -> x.compare(9, 5));
        due("flags", x.flags(true), 32);
        throwing(UNSUPPORTED, "5 and NaN", () -> x.compare(5, 9));
        throwing(UNSUPPORTED, "NaN and NaN", () -> x.compare(9, 9));
        due("flags", x.flags(true), 32);
        refuses(ARGUMENT, "NaN and no register", () -> x.compare(9, 16));
    }

    private static void look() {
        specials();
        x.precision(6, 77);
        x.number(6, -3, 4, 0);
        int[] kinds = {0, 1, 1, 2, 2, 3, 3};
        int[] signs = {-1, 0, 1, 0, 1, 0, 1};
        for (int r = 0; r < 7; r++) {
            int register = r;
            due("precision of " + r, x.look(r, 0), r == 6 ? 77 : 64);
            due("kind of " + r, x.look(r, 1), kinds[r]);
            if (r == 0) {
                refuses(NONE, "the sign of NaN", () -> x.look(0, 2));
            } else {
                due("sign of " + r, x.look(r, 2), signs[r]);
            }
            if (r < 5) {
                refuses(NONE, "the exponent of " + show(r), () -> x.look(register, 3));
            }
        }
        due("exponent of 6", x.look(5, 3), 3);
        due("exponent of -48", x.look(6, 3), 6);
        x.number(6, 1, 0, 0);
        due("exponent of 1", x.look(6, 3), 1);
        x.range(-16384, 16384, true);
        x.precision(6, 4096);
        x.number(6, 1, -20480, 0);
        due("the least exponent that there is", x.look(6, 3), -20479);
        refuses(ARGUMENT, "what 4", () -> x.look(5, 4));
        refuses(ARGUMENT, "what -1", () -> x.look(5, -1));
        refuses(ARGUMENT, "register 16", () -> x.look(16, 0));
        refuses(ARGUMENT, "register -1", () -> x.look(-1, 3));
        refuses(ARGUMENT, "what 4 of NaN", () -> x.look(0, 4));
    }

    private static void word() {
        x.precision(0, 70);
        x.number(0, 3, 500, 0);
        long[] wants = {0, 0, 48, 0};
        for (int k = 0; k < 4; k++) {
            due("word(0, " + k + ")", x.word(0, k), wants[k]);
        }
        due("word(0, 127)", x.word(0, 127), 0);
        x.number(0, -1, 0, 0);
        x.neighbour(0, true);
        due("all ones", x.word(0, 0), 4294967295L);
        due("all ones", x.word(0, 1), 4294967295L);
        due("all ones", x.word(0, 2), 63);
        x.precision(1, 4096);
        x.number(1, 1, 0, 0);
        due("the highest bit", x.word(1, 127), 2147483648L);
        refuses(ARGUMENT, "k 128", () -> x.word(0, 128));
        refuses(ARGUMENT, "k -1", () -> x.word(0, -1));
        refuses(ARGUMENT, "register 16", () -> x.word(16, 0));
        refuses(ARGUMENT, "register -1", () -> x.word(-1, 0));
        refuses(ARGUMENT, "k 128 of NaN", () -> x.word(2, 128));
        refuses(NONE, "of NaN", () -> x.word(2, 0));
        x.fromDouble(2, 0, 0);
        refuses(NONE, "of 0", () -> x.word(2, 0));
        x.fromDouble(2, PLUS_INFINITY, 0);
        refuses(NONE, "of inf", () -> x.word(2, 5));
    }

    private static void fromDouble() {
        gives("-1.5", from(-1.5, 0), 0, "0 -3b-1 0");
        gives("0.0", from(0.0, 3), 0, "0 +0 0");
        gives("-0.0", from(-0.0, 0), 0, "0 -0 0");
        gives("infinity", from(Double.POSITIVE_INFINITY, 0), 0, "0 +inf 0");
        gives("-infinity", from(Double.NEGATIVE_INFINITY, 0), 0, "0 -inf 0");
        gives("NaN", from(Double.NaN, 0), 0, "0 NaN 0");
        gives("another NaN", x.fromDouble(0, 0xFFF0000000000001L, 0), 0, "0 NaN 0");
        gives("the least", from(Double.MIN_VALUE, 0), 0, "0 +1b-1074 0");
        gives("the greatest without its own first bit", x.fromDouble(0, 0x800FFFFFFFFFFFFFL, 0), 0,
            "0 -4503599627370495b-1074 0");
        gives("the least with it", from(Double.MIN_NORMAL, 0), 0, "0 +1b-1022 0");
        gives("the greatest", from(Double.MAX_VALUE, 0), 0, "0 +9007199254740991b971 0");
        x.precision(0, 5);
        gives("33, rounded", from(33, 0), 0, "-1 +1b5 1");
        gives("33, up", from(33, 2), 0, "1 +17b1 1");
        x.range(-10, 10, true);
        gives("out of the range", from(-1e300, 3), 0, "-1 -inf 3");
        gives("below the range", from(1e-300, 2), 0, "1 +1b-15 5");
        refuses(ARGUMENT, "mode 5", () -> x.fromDouble(0, 0, 5));
        refuses(ARGUMENT, "register 16", () -> x.fromDouble(16, 0, 0));
        refuses(ARGUMENT, "register -1", () -> x.fromDouble(-1, 0, 0));
    }

    private static void bits(String what, int mode, double want) {
        due(what + ", mode " + mode, x.toDouble(0, mode), Double.doubleToRawLongBits(want));
    }

    private static void toDouble() {
        due("NaN", x.toDouble(0, 0), 9221120237041090560L);
        double[] some = {1.5, -3e300, Double.MIN_VALUE, Double.MIN_NORMAL, Double.MAX_VALUE, -0.0, 0.0, -1e-310,
            Double.POSITIVE_INFINITY, Double.NEGATIVE_INFINITY};
        for (double one : some) {
            for (int mode = 0; mode < 5; mode++) {
                from(one, 0);
                bits("" + one, mode, one);
            }
        }
        double[] ofThird = {1.0 / 3, 1.0 / 3, Math.nextUp(1.0 / 3), 1.0 / 3, Math.nextUp(1.0 / 3)};
        double[] ofHuge = {-1.0 / 0, -Double.MAX_VALUE, -Double.MAX_VALUE, -1.0 / 0, -1.0 / 0};
        double[] ofTiny = {0, 0, Double.MIN_VALUE, 0, Double.MIN_VALUE};
        double[] ofMinusTiny = {-0.0, -0.0, -0.0, -Double.MIN_VALUE, -Double.MIN_VALUE};
        double[] ofThreeHalves = {2 * Double.MIN_VALUE, Double.MIN_VALUE, 2 * Double.MIN_VALUE, Double.MIN_VALUE, 2 * Double.MIN_VALUE};
        double[] nearNormal = {Double.MIN_NORMAL, Math.nextDown(Double.MIN_NORMAL), Double.MIN_NORMAL,
            Math.nextDown(Double.MIN_NORMAL), Double.MIN_NORMAL};
        x.number(1, 1, 0, 0);
        x.number(2, 3, 0, 0);
        for (int mode = 0; mode < 5; mode++) {
            x.reckon(3, 0, 1, 2, 1);
            bits("1 / 3", mode, ofThird[mode]);
            x.number(0, -1, 1024, 0);
            bits("-2^1024", mode, ofHuge[mode]);
            x.number(0, 1, -1075, 0);
            bits("2^-1075", mode, ofTiny[mode]);
            x.number(0, -1, -16000, 0);
            bits("-2^-16000", mode, ofMinusTiny[mode]);
            x.number(0, 3, -1075, 0);
            bits("3 * 2^-1075", mode, ofThreeHalves[mode]);
            x.number(0, (1L << 53) - 1, -1075, 0);
            bits("nearly 2^-1022", mode, nearNormal[mode]);
        }
        x.flags(true);
        x.range(-3, 3, false);
        x.toDouble(0, 0);
        due("no flags, and the range of the registers does not matter", x.flags(true), 0);
        bits("nearly 2^-1022", 0, Double.MIN_NORMAL);
        refuses(ARGUMENT, "mode 5", () -> x.toDouble(0, 5));
        refuses(ARGUMENT, "register 16", () -> x.toDouble(16, 0));
        refuses(ARGUMENT, "register -1", () -> x.toDouble(-1, 0));
    }

    private static void toLong() {
        x.number(0, -5, -1, 0);
        long[] wants = {-2, -2, -2, -3, -3};
        for (int mode = 0; mode < 5; mode++) {
            due("-2.5, mode " + mode, x.toLong(0, mode), wants[mode]);
        }
        x.number(0, 7, -1, 0);
        due("3.5", x.toLong(0, 0), 4);
        x.number(0, 1, -16000, 0);
        due("2^-16000, up", x.toLong(0, 2), 1);
        due("2^-16000", x.toLong(0, 0), 0);
        x.fromDouble(0, MINUS_ZERO, 0);
        due("-0", x.toLong(0, 0), 0);
        x.number(0, Long.MIN_VALUE, 0, 0);
        due("the least", x.toLong(0, 0), Long.MIN_VALUE);
        x.number(0, Long.MAX_VALUE, 0, 0);
        due("the greatest", x.toLong(0, 0), Long.MAX_VALUE);
        x.precision(0, 66);
        x.number(0, Long.MAX_VALUE, 0, 0);
        x.number(1, 1, -1, 0);
        x.reckon(0, 0, 0, 1, 0);
        due("the greatest and a half, down", x.toLong(0, 3), Long.MAX_VALUE);
        due("no flag", x.flags(false), 0);
        throwing(UNSUPPORTED, "the greatest and a half", () -> x.toLong(0, 0));
        due("order", x.flags(true), 32);
        x.copy(0, 0, 1, 0);
        due("less than the least and a half", x.toLong(0, 0), Long.MIN_VALUE);
        x.number(0, Long.MIN_VALUE, 0, 0);
        x.reckon(1, 0, 0, 1, 0);
        due("the least less a half, up", x.toLong(0, 2), Long.MIN_VALUE);
        due("the least less a half, to the even", x.toLong(0, 0), Long.MIN_VALUE);
        throwing(UNSUPPORTED, "the least less a half, down", () -> x.toLong(0, 3));
        due("order", x.flags(true), 32);
        long[] specials = {0x7FF8000000000000L, PLUS_INFINITY, MINUS_INFINITY, Double.doubleToRawLongBits(0x1p63),
            Double.doubleToRawLongBits(1e300)};
        for (long special : specials) {
            x.fromDouble(0, special, 0);
            throwing(UNSUPPORTED, show(0), () -> x.toLong(0, 1));
            due("order", x.flags(true), 32);
        }
        x.precision(0, 64);
        refuses(ARGUMENT, "mode 5", () -> x.toLong(0, 5));
        refuses(ARGUMENT, "register 16", () -> x.toLong(16, 0));
        refuses(ARGUMENT, "register -1", () -> x.toLong(-1, 0));
    }

    private static void feed() {
        x.feed(0x2D312E32, 0x33343536, 0x37383930, 0x31323334, 0x35363738);
        due("twenty bytes", x.end(6), 14);
        // The first six are "-1.234"; three bits are enough to tell.
        x.precision(0, 3);
        due("read", x.read(0, 10, 0) + show(0), "-1-5b-2");
        for (int i = 0; i < 204; i++) {
            x.feed(i, -1, 0, Integer.MIN_VALUE, 5);
        }
        refuses(STATE, "the 205th", () -> x.feed(1, 2, 3, 4, 5));
        due("4080 bytes", tapeLength(), 4080);
        x.end(4077);
        refuses(STATE, "one byte too many", () -> x.feed(1, 2, 3, 4, 5));
        x.end(4076);
        x.feed(1, 2, 3, 4, 5);
        due("4096 bytes", tapeLength(), 4096);
        due("away", x.end(0), 4096);
    }

    private static void end() {
        refuses(ARGUMENT, "end(1) of nothing", () -> x.end(1));
        due("end(0)", x.end(0), 0);
        x.feed(0, 0, 0, 0, 0);
        x.feed(0, 0, 0, 0, 0);
        refuses(ARGUMENT, "end(41)", () -> x.end(41));
        refuses(ARGUMENT, "end(-1)", () -> x.end(-1));
        refuses(ARGUMENT, "end of the greatest", () -> x.end(Integer.MAX_VALUE));
        due("end(40)", x.end(40), 0);
        due("end(33)", x.end(33), 7);
        due("end(0)", x.end(0), 33);
    }

    private static void reads(String text, int base, int mode, String want) {
        type(text);
        int ternary = x.read(0, base, mode);
        gives(text + " in base " + base + ", mode " + mode, ternary, 0, want);
        due("the tape is empty", tapeLength(), 0);
    }

    private static void read() {
        reads("0", 2, 3, "0 +0 0");
        reads("-0", 10, 0, "0 -0 0");
        reads("-.000@99999999999999", 10, 0, "0 -0 0");
        reads("+12.5", 10, 0, "0 +25b-1 0");
        reads("-12.5@0", 10, 0, "0 -25b-1 0");
        reads("125@-1", 10, 0, "0 +25b-1 0");
        reads(".125@+2", 10, 0, "0 +25b-1 0");
        reads("1.", 10, 0, "0 +1b0 0");
        reads("101.11", 2, 0, "0 +23b-2 0");
        reads("zZ", 36, 0, "0 +1295b0 0");
        reads("Ff@1", 16, 0, "0 +255b4 0");
        reads("a@-1", 32, 0, "0 +5b-4 0");
        reads("1@-1", 3, 0, "1 +12297829382473034411b-65 1");
        reads("nan", 10, 0, "0 NaN 0");
        reads("inf", 10, 0, "0 +inf 0");
        reads("+inf", 36, 0, "0 +inf 0");
        reads("-inf", 2, 0, "0 -inf 0");
        reads("nan", 36, 0, "0 NaN 0");
        reads("+nan", 36, 0, "0 +30191b0 0");
        reads("-Nan", 36, 0, "0 -30191b0 0");
        reads("Inf", 36, 0, "0 +24171b0 0");
        reads("inf.", 36, 0, "0 +24171b0 0");
        reads("inf@0", 36, 0, "0 +24171b0 0");
        reads("1@99999999999999999999", 10, 0, "1 +inf 3");
        reads("-1@99999999999999999999", 10, 2, "1 -18446744073709551615b16320 3");
        reads("1@-99999999999999999999", 10, 0, "-1 +0 5");
        reads("-1@-99999999999999999999", 10, 3, "-1 -1b-16385 5");
        reads("1" + "0".repeat(4000) + "@-4000", 10, 0, "0 +1b0 0");
        reads("." + "0".repeat(4000) + "1@4001", 10, 0, "0 +1b0 0");
        reads("1@" + "0".repeat(4000) + "1", 10, 0, "0 +5b1 0");
        reads("1" + "0".repeat(4000) + "@-4000", 36, 0, "0 +1b0 0");
        reads("." + "0".repeat(4000) + "1@4001", 36, 0, "0 +1b0 0");
        reads("." + "0".repeat(4000) + "1@-4001", 36, 0, "-1 +0 5");
        reads("-1" + "0".repeat(4000) + "@4001", 36, 1, "1 -18446744073709551615b16320 3");
        x.precision(0, 3);
        String[] ofTie = {"-1 +1b0 1", "-1 +1b0 1", "1 +5b-2 1", "-1 +1b0 1", "1 +5b-2 1"};
        String[] ofMore = {"1 +5b-2 1", "-1 +1b0 1", "1 +5b-2 1", "-1 +1b0 1", "1 +5b-2 1"};
        for (int mode = 0; mode < 5; mode++) {
            reads("1.125", 10, mode, ofTie[mode]);
            reads("1.125" + "0".repeat(3000) + "1", 10, mode, ofMore[mode]);
            reads("1.124" + "9".repeat(3000), 10, mode, ofTie[mode]);
        }
        x.range(-3, 3, true);
        reads(".0078125", 10, 0, "-1 +0 5");
        reads(".00781250000001", 10, 0, "1 +1b-6 5");
        reads("7.5", 10, 0, "1 +inf 3");
        reads("7.5", 10, 1, "-1 +7b0 1");
        type("5");
        refuses(ARGUMENT, "base 1", () -> x.read(0, 1, 0));
        refuses(ARGUMENT, "base 37", () -> x.read(0, 37, 0));
        refuses(ARGUMENT, "mode 5", () -> x.read(0, 10, 5));
        refuses(ARGUMENT, "register 16", () -> x.read(16, 10, 0));
        refuses(ARGUMENT, "register -1", () -> x.read(-1, 10, 0));
        due("the tape stayed", x.read(0, 10, 0) + show(0), "0+5b0");
    }

    private static void readNothing() {
        x.number(0, 7, 0, 0);
        String[] bad = {"", "+", "-", ".", "+.", "@", "@1", ".@1", "1@", "1@+", "1@-", "1@.5", "1@5.", "1@a", "1@1@1", "1..2",
            "1.2.3", "1 ", " 1", "--1", "+-1", "1-", "1@--1", "a", "A", "INF", "Inf", "NaN", "+nan", "-nan", "nan ", "inf@1",
            "infinity", "1e5", "0x1", "1,5", "\u0000", "\u00b2", "1@1\u0000", "nanx", "innf"};
        for (String text : bad) {
            type(text);
            throwing(UNSUPPORTED, "\"" + text + "\"", () -> x.read(0, 10, 0));
            due("the register stays", show(0), "+7b0");
            due("the tape is empty", tapeLength(), 0);
            due("flags", x.flags(false), 0);
        }
        type("12");
        throwing(UNSUPPORTED, "2 in base 2", () -> x.read(0, 2, 0));
        type("z");
        throwing(UNSUPPORTED, "z in base 35", () -> x.read(0, 35, 0));
        type("1@z");
        throwing(UNSUPPORTED, "an exponent of letters", () -> x.read(0, 36, 0));
        due("the register stays", show(0), "+7b0");
        due("base 11", ternaryIn("a", 11) + show(0), "0+5b1");
    }

    private static int ternaryIn(String text, int base) {
        type(text);
        return x.read(0, base, 0);
    }

    private static void writes(String what, int base, int n, int mode, String want) {
        int power = x.write(0, base, n, mode);
        due(what + " in base " + base + ", " + n + " digits, mode " + mode, out() + "@" + power, want);
    }

    private static void write() {
        x.number(0, 5, -1, 0);
        writes("2.5", 10, 0, 4, "25@1");
        writes("2.5", 10, 1, 0, "2@1");
        writes("2.5", 10, 1, 2, "3@1");
        writes("2.5", 10, 6, 2, "250000@1");
        writes("2.5", 2, 0, 0, "101@2");
        writes("2.5", 3, 1, 0, "2@1");
        x.copy(0, 0, 1, 0);
        String[] ofMinus = {"2@1", "2@1", "2@1", "3@1", "3@1"};
        for (int mode = 0; mode < 5; mode++) {
            writes("-2.5", 10, 1, mode, ofMinus[mode]);
        }
        x.number(0, 7, -1, 0);
        writes("3.5", 10, 1, 0, "4@1");
        x.number(0, 999, 0, 0);
        writes("999", 10, 2, 0, "10@4");
        writes("999", 10, 2, 1, "99@3");
        writes("999", 10, 3, 4, "999@3");
        writes("999", 36, 0, 0, "rr@2");
        x.number(0, 19, -1, 0);
        writes("9.5: 9 is odd", 10, 1, 0, "1@2");
        x.number(0, 1, 0, 0);
        writes("1", 7, 3, 0, "100@1");
        x.number(0, 1, -1, 0);
        writes("0.5", 10, 0, 0, "5@0");
        writes("0.5", 3, 2, 0, "11@0");
        x.number(0, 1, -10, 0);
        writes("2^-10", 10, 0, 0, "9765625@-3");
        x.number(0, 1, 16000, 0);
        writes("2^16000", 2, 0, 0, "1@16001");
        writes("2^16000", 16, 0, 0, "1@4001");
        x.precision(0, 53);
        double[] some = {0.1, 0.3, 1.0 / 3, Double.MAX_VALUE, 9007199254740993.0, 1e23, 2e-44, 9.5367431640625e-7};
        String[] digits = {"1@0", "3@0", "3333333333333333@0", "17976931348623157@309", "9007199254740992@16", "1@24",
            "2@-43", "95367431640625@-6"};
        for (int i = 0; i < some.length; i++) {
            from(some[i], 0);
            writes("" + some[i], 10, 0, 0, digits[i]);
        }
        // With 7 digits it is missed by less than half a last bit, but on the side where numbers are closer.
        x.precision(0, 24);
        x.number(0, 1, 90, 0);
        writes("2^90 in 24 bits", 10, 0, 0, "123794004@28");
        x.precision(0, 2);
        x.number(0, 1, 3, 0);
        writes("8 in 2 bits", 10, 0, 0, "8@1");
        x.number(0, 1, 10, 0);
        writes("1024 in 2 bits", 10, 0, 0, "1@4");
        x.precision(0, 4096);
        x.number(0, 1, 0, 0);
        x.neighbour(0, true);
        x.write(0, 2, 0, 0);
        due("all its bits", x.octet(-1), 4096);
        due("flags", x.flags(false), 0);
        x.number(0, 3, 0, 0);
        x.write(0, 10, 2000, 0);
        due("2000 digits", x.octet(-1), 2000);
        refuses(ARGUMENT, "n 2001", () -> x.write(0, 10, 2001, 0));
        refuses(ARGUMENT, "n -1", () -> x.write(0, 10, -1, 0));
        refuses(ARGUMENT, "base 1", () -> x.write(0, 1, 5, 0));
        refuses(ARGUMENT, "base 37", () -> x.write(0, 37, 5, 0));
        refuses(ARGUMENT, "mode 5, n 0", () -> x.write(0, 10, 0, 5));
        refuses(ARGUMENT, "register 16", () -> x.write(16, 10, 5, 0));
        refuses(ARGUMENT, "register -1", () -> x.write(-1, 10, 5, 0));
        refuses(ARGUMENT, "base 37 of NaN", () -> x.write(5, 37, 5, 0));
        specials();
        for (int r = 0; r < 5; r++) {
            int register = r;
            refuses(NONE, show(r), () -> x.write(register, 10, 5, 0));
        }
    }

    private static void octet() {
        due("octet(-1)", x.octet(-1), 0);
        refuses(NONE, "octet(0)", () -> x.octet(0));
        x.number(0, 47, 0, 0);
        x.write(0, 36, 3, 0);
        due("octet(-1)", x.octet(-1), 3);
        due("octet(0)", x.octet(0), 49);
        due("octet(1)", x.octet(1), 98);
        due("octet(2)", x.octet(2), 48);
        for (int k : new int[] {3, 4096, 5000, -2, Integer.MAX_VALUE, Integer.MIN_VALUE}) {
            refuses(NONE, "octet(" + k + ")", () -> x.octet(k));
        }
        x.write(0, 10, 1, 0);
        due("octet(-1)", x.octet(-1), 1);
        refuses(NONE, "octet(1)", () -> x.octet(1));
    }
}
