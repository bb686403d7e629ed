import java.math.BigDecimal;
import java.math.BigInteger;
import java.math.MathContext;
import java.math.RoundingMode;

/** The sentences of promises 21 to 25 that name a boundary: each has a test of its own, with an object of its own. */
public final class TextEdgesTest extends Checks {
    private static final String DIGITS = "0123456789abcdefghijklmnopqrstuvwxyz";

    public static void main(String[] args) {
        sentence("21: twenty bytes, five times four, the highest of each first", TextEdgesTest::feedOrder);
        sentence("21: come to the tape", TextEdgesTest::feedBehind);
        sentence("21: it would have more than 4096", TextEdgesTest::feedFull);
        sentence("22: cut to its first n bytes; answers how many went", TextEdgesTest::endCuts);
        sentence("22: it has less, or n is below 0", TextEdgesTest::endRefuses);
        sentence("23: [sign] and inf", TextEdgesTest::readInf);
        sentence("23: or nan, without a sign", TextEdgesTest::readNan);
        sentence("23: (small letters, in every base, looked for first)", TextEdgesTest::lookedForFirst);
        sentence("23: digits of a base 2 .. 36 (0 .. 9, then letters, small or not)", TextEdgesTest::everyDigit);
        sentence("23: digits, one or more", TextEdgesTest::someDigit);
        sentence("23: at most one point before, between or behind them", TextEdgesTest::points);
        sentence("23: if there are more, @ [sign] decimal digits, one or more", TextEdgesTest::exponents);
        sentence("23: the power of the base by which that is multiplied", TextEdgesTest::powers);
        sentence("23: a sign is + or -", TextEdgesTest::signs);
        sentence("23: rounded; answers the ternary", TextEdgesTest::readRounds);
        sentence("23: rounded, above the range", TextEdgesTest::readAbove);
        sentence("23: rounded, below the range", TextEdgesTest::readBelow);
        sentence("23: powers of the base far beyond any range", TextEdgesTest::readFarOut);
        sentence("23: digits that are all 0 are a zero with the sign", TextEdgesTest::readZeros);
        sentence("23: reads the tape, which is empty then", TextEdgesTest::tapeIsEmpty);
        sentence("23: it is none of these; the register stays, the tape is empty then, too", TextEdgesTest::noneOfThese);
        sentence("23: (not with an IllegalArgumentException)", TextEdgesTest::tapeStays);
        sentence("23: a full tape", TextEdgesTest::readFull);
        sentence("24: out becomes n (1 .. 2000) digits", TextEdgesTest::writeCounts);
        sentence("24: digits (0 .. 9, a .. z) of a number in a base", TextEdgesTest::writeBases);
        sentence("24: rounded in the mode", TextEdgesTest::writeModes);
        sentence("24: of two as near, in mode 0, the one that is even", TextEdgesTest::writeTies);
        sentence("24: modes 2 and 3 as the number with its sign", TextEdgesTest::writeSigns);
        sentence("24: 0.ddd times the power X of the base, the first digit not 0", TextEdgesTest::writePowers);
        sentence("24: digits that are carried into the next power", TextEdgesTest::writeCarries);
        sentence("24: the widest numbers", TextEdgesTest::writeWidest);
        sentence("24: no flags", TextEdgesTest::writeFlags);
        sentence("24: for n 0: as few as possible", TextEdgesTest::writeFewest);
        sentence("24: below a power of two numbers are closer", TextEdgesTest::writeFewestOfPowers);
        sentence("24: as if the range had no ends", TextEdgesTest::writeWithoutEnds);
        sentence("24: then as for this n, mode 0", TextEdgesTest::writeFewestMode);
        sentence("24: this n may be above 2000", TextEdgesTest::writeMany);
        sentence("24: it is no number", TextEdgesTest::writeNone);
        sentence("25: a byte of out", TextEdgesTest::octets);
        sentence("25: for k -1 how many it has", TextEdgesTest::octetCount);
        sentence("25: there is none", TextEdgesTest::octetNone);
        finish("edges of promises 21 to 25");
    }

    private static void feedOrder() {
        x.precision(0, 128);
        x.feed(0x31323334, 0x35363738, 0x39303132, 0x33343536, 0x37383930);
        due("read", x.read(0, 10, 0) + " " + x.write(0, 10, 20, 0) + " " + out(), "0 20 12345678901234567890");
        // Each byte alone beside 19 that are 0: the tape is cut behind it.
        for (int i = 0; i < 20; i++) {
            int[] fours = {0x30303030, 0x30303030, 0x30303030, 0x30303030, 0x30303030};
            fours[i / 4] += 1 << 24 - 8 * (i % 4);
            x.feed(fours[0], fours[1], fours[2], fours[3], fours[4]);
            due("cut", x.end(i + 1), 19 - i);
            due("byte " + i + " is the last", x.read(0, 10, 0) + show(0), "0+1b0");
        }
    }

    private static void feedBehind() {
        x.precision(0, 200);
        x.feed(0x30303030, 0x30303030, 0x30303030, 0x30303030, 0x30303031);
        x.feed(0x30303030, 0x30303030, 0x30303030, 0x30303030, 0x30303032);
        x.end(39);
        x.feed(0x3340302F, 0, 0, 0, 0);
        x.end(42);
        // 1, nineteen zeros and 3, times 10^0.
        x.read(0, 10, 0);
        due("read", x.write(0, 10, 0, 0) + " " + out(), "21 1" + "0".repeat(19) + "3");
    }

    private static void feedFull() {
        for (int i = 0; i < 204; i++) {
            x.feed(0x31313131, 0x31313131, 0x31313131, 0x31313131, 0x31313131);
        }
        throwing(STATE, "4100 bytes", () -> x.feed(0, 0, 0, 0, 0));
        tapeHas(4080);
        x.end(4077);
        throwing(STATE, "4097 bytes", () -> x.feed(0, 0, 0, 0, 0));
        tapeHas(4077);
        x.end(4076);
        x.feed(0x31313131, 0x31313131, 0x31313131, 0x31313131, 0x31313131);
        tapeHas(4096);
        throwing(STATE, "4116 bytes", () -> x.feed(0, 0, 0, 0, 0));
        tapeHas(4096);
        x.precision(0, 4096);
        due("what was refused is not there", x.read(0, 2, 0), 0);
        due("4096 ones", x.word(0, 0) & x.word(0, 64) & x.word(0, 127), 4294967295L);
        due("the exponent", x.look(0, 3), 4096);
    }

    private static void endCuts() {
        due("an empty one", x.end(0), 0);
        type("12345");
        due("to all", x.end(5), 0);
        due("to 3", x.end(3), 2);
        due("to 3 again", x.end(3), 0);
        due("the first three", x.read(0, 10, 0) + show(0), "0+123b0");
        type("12345");
        due("to none", x.end(0), 5);
        due("none is left", x.end(0), 0);
    }

    private static void endRefuses() {
        throwing(ARGUMENT, "1 of none", () -> x.end(1));
        throwing(ARGUMENT, "-1 of none", () -> x.end(-1));
        x.feed(0x31313131, 0x31313131, 0x31313131, 0x31313131, 0x31313131);
        throwing(ARGUMENT, "21 of 20", () -> x.end(21));
        throwing(ARGUMENT, "-1 of 20", () -> x.end(-1));
        throwing(ARGUMENT, "the least int", () -> x.end(Integer.MIN_VALUE));
        throwing(ARGUMENT, "the greatest int", () -> x.end(Integer.MAX_VALUE));
        tapeHas(20);
    }

    private static void reads(String text, int base, String want) {
        reads(text, base, 0, want);
    }

    private static void reads(String text, int base, int mode, String want) {
        type(text);
        String got;
        try {
            got = x.read(0, base, mode) + " " + show(0) + " " + x.flags(true);
        } catch (UnsupportedOperationException e) {
            got = "none";
        }
        String shown = text.length() > 60 ? text.substring(0, 60) + ".." : text;
        due(shown + " in base " + base + ", mode " + mode, got, want);
    }

    private static void readInf() {
        for (int base = 2; base <= 36; base++) {
            x = new TrueFloats();
            reads("inf", base, "0 +inf 0");
            reads("+inf", base, "0 +inf 0");
            reads("-inf", base, "0 -inf 0");
        }
        for (String text : new String[] {"in", "infi", "inf ", "--inf", "+-inf", "inf.", ".inf", "inf@1", "inf@", "nf"}) {
            reads(text, 10, "none");
        }
    }

    private static void readNan() {
        for (int base = 2; base <= 36; base++) {
            x = new TrueFloats();
            reads("nan", base, "0 NaN 0");
        }
        for (String text : new String[] {"+nan", "-nan", "na", "nann", "nan ", "nan@1", "nan.", "an"}) {
            reads(text, 10, "none");
        }
    }

    /** In base 24 and above, the letters of both are digits; in another form they are nothing else. */
    private static void lookedForFirst() {
        reads("+nan", 23, "none");
        reads("+nan", 24, "0 +13511b0 0");
        reads("-nan", 24, "0 -13511b0 0");
        reads("Nan", 24, "0 +13511b0 0");
        reads("nan.", 24, "0 +13511b0 0");
        reads("nan@0", 24, "0 +13511b0 0");
        reads("nan", 24, "0 NaN 0");
        reads("INF", 23, "none");
        reads("INF", 24, "0 +10935b0 0");
        reads("-inF", 24, "0 -10935b0 0");
        reads("inf@0", 24, "0 +10935b0 0");
        reads(".inf@3", 24, "0 +10935b0 0");
        reads("0inf", 24, "0 +10935b0 0");
        reads("-inf", 24, "0 -inf 0");
        reads("NAN", 10, "none");
        reads("INF", 10, "none");
    }

    private static void everyDigit() {
        for (int base = 2; base <= 36; base++) {
            x = new TrueFloats();
            int top = base - 1;
            String small = DIGITS.substring(top, base);
            int zeros = Integer.numberOfTrailingZeros(top);
            String want = "0 +" + (top >> zeros) + "b" + zeros + " 0";
            reads(small, base, want);
            reads(small.toUpperCase(), base, want);
            if (base < 36) {
                String next = DIGITS.substring(base, base + 1);
                reads(next, base, "none");
                reads(next.toUpperCase(), base, "none");
                reads("1" + next, base, "none");
                reads("1." + next, base, "none");
            }
        }
        // What stands beside the digits and letters among the characters.
        for (char c : new char[] {'/', ':', '`', '{', '[', '\u0000', '\u00b9', '\u00e1', '\u00ff'}) {
            reads("1" + c, 36, "none");
        }
    }

    private static void someDigit() {
        for (String text : new String[] {"", "+", "-", ".", "+.", "-.", "@", "@1", "+@1", ".@1", "-.@0"}) {
            reads(text, 10, "none");
        }
        reads("1", 10, "0 +1b0 0");
        reads("-1", 10, "0 -1b0 0");
        reads(".1", 2, "0 +1b-1 0");
        reads("1@0", 10, "0 +1b0 0");
    }

    private static void points() {
        reads(".25", 10, "0 +1b-2 0");
        reads("2.5", 10, "0 +5b-1 0");
        reads("25.", 10, "0 +25b0 0");
        reads("-.5@1", 10, "0 -5b0 0");
        reads("5.@1", 10, "0 +25b1 0");
        for (String text : new String[] {"..25", "2..5", "25..", ".2.5", ".25.", "2.5.", "2,5", "2.5@1.", "2.5@.1"}) {
            reads(text, 10, "none");
        }
    }

    private static void exponents() {
        reads("3@1", 10, "0 +15b1 0");
        reads("3@+1", 10, "0 +15b1 0");
        reads("30@-1", 10, "0 +3b0 0");
        reads("3@0", 10, "0 +3b0 0");
        reads("3@-0", 10, "0 +3b0 0");
        reads("3@+00000000000000000000001", 10, "0 +15b1 0");
        for (String text : new String[] {"3@", "3@+", "3@-", "3@+-1", "3@--1", "3@1+", "3@ 1", "3@1@1", "3@@1", "3e1", "3@1 "}) {
            reads(text, 10, "none");
        }
        reads("1@a", 16, "none");
        reads("1@1a", 36, "none");
        reads("1@9", 2, "0 +1b9 0");
        reads("1@10", 2, "0 +1b10 0");
        reads("1@-10", 16, "0 +1b-40 0");
    }

    private static void powers() {
        reads("1@2", 3, "0 +9b0 0");
        reads("1@2", 36, "0 +81b4 0");
        reads("1.1@1", 3, "0 +1b2 0");
        reads(".001@3", 7, "0 +1b0 0");
        reads("1000@-3", 7, "0 +1b0 0");
        reads("1" + "0".repeat(400) + "@-400", 35, "0 +1b0 0");
        reads("." + "0".repeat(399) + "1@400", 35, "0 +1b0 0");
    }

    private static void signs() {
        reads("+7", 10, "0 +7b0 0");
        reads("-7", 10, "0 -7b0 0");
        reads("7", 10, "0 +7b0 0");
        for (String text : new String[] {"++7", "+-7", "7+", "7-", " 7", "~7", "\u20117", "*7"}) {
            reads(text, 10, "none");
        }
    }

    private static void readRounds() {
        x.precision(0, 2);
        String[] ofHalfWay = {"-1 +1b0 1", "-1 +1b0 1", "1 +3b-1 1", "-1 +1b0 1", "1 +3b-1 1"};
        String[] ofMore = {"1 +3b-1 1", "-1 +1b0 1", "1 +3b-1 1", "-1 +1b0 1", "1 +3b-1 1"};
        String[] ofMinus = {"1 -1b0 1", "1 -1b0 1", "1 -1b0 1", "-1 -3b-1 1", "-1 -3b-1 1"};
        for (int mode = 0; mode <= 4; mode++) {
            reads("1.25", 10, mode, ofHalfWay[mode]);
            reads("1.25" + "0".repeat(200) + "1", 10, mode, ofMore[mode]);
            reads("1.24" + "9".repeat(200), 10, mode, ofHalfWay[mode]);
            reads("-1.25", 10, mode, ofMinus[mode]);
            reads("1.5", 10, mode, "0 +3b-1 0");
        }
        reads("1.75", 10, "1 +1b1 1");
        reads(".1@0", 3, "1 +3b-3 1");
    }

    private static void readAbove() {
        x.precision(0, 2);
        reads("1@16383", 2, "0 +1b16383 0");
        reads("1.1@16383", 2, "0 +3b16382 0");
        reads("1.11@16383", 2, "1 +inf 3");
        reads("1.1011111@16383", 2, "-1 +3b16382 1");
        reads("1@16384", 2, "1 +inf 3");
        reads("-1@16384", 2, 2, "1 -3b16382 3");
        reads("1@4932", 10, "-1 +3b16382 1");
        reads("9.9@4931", 10, 1, "-1 +3b16382 1");
        reads("1.2@4932", 10, 1, "-1 +3b16382 3");
        x.range(0, 1, false);
        reads("1.75", 10, "1 +inf 3");
        reads("2", 10, 1, "-1 +3b-1 3");
    }

    private static void readBelow() {
        reads("1@-16385", 2, "0 +1b-16385 0");
        reads("1@-16386", 2, "-1 +0 5");
        reads("1.0000001@-16386", 2, "1 +1b-16385 5");
        reads("-1@-16386", 2, 3, "-1 -1b-16385 5");
        reads("2.2@-4933", 10, "1 +1b-16385 5");
        reads("2.1@-4933", 10, "-1 +0 5");
        x.range(-16384, 16384, true);
        reads("1@-16448", 2, "0 +1b-16448 0");
        reads("1@-16449", 2, "-1 +0 5");
        reads("1.1@-16449", 2, "1 +1b-16448 5");
        reads("1.1@-16448", 2, "1 +1b-16447 5");
        x.precision(0, 4096);
        reads("1@-20480", 2, "0 +1b-20480 0");
        reads("1@-20481", 2, "-1 +0 5");
        reads("1.01@-20481", 2, "1 +1b-20480 5");
    }

    private static void readFarOut() {
        String huge = "9".repeat(60);
        String all = "18446744073709551615b16320";
        reads("1@" + huge, 36, "1 +inf 3");
        reads("-1@" + huge, 2, 1, "1 -" + all + " 3");
        reads("1@-" + huge, 36, "-1 +0 5");
        reads("-1@-" + huge, 2, 4, "-1 -1b-16385 5");
        reads("." + "0".repeat(100) + "1@" + huge, 10, "1 +inf 3");
        reads("1@2147483647", 10, "1 +inf 3");
        reads("1@2147483648", 10, "1 +inf 3");
        reads("1@4294967296", 10, "1 +inf 3");
        reads("1@-2147483648", 10, "-1 +0 5");
        reads("1@-2147483649", 10, "-1 +0 5");
        reads("1@-4294967296", 10, "-1 +0 5");
        reads("0@" + huge, 10, "0 +0 0");
        reads("-0@-" + huge, 10, "0 -0 0");
    }

    private static void readZeros() {
        for (int mode = 0; mode <= 4; mode++) {
            reads("0", 10, mode, "0 +0 0");
            reads("+0", 2, mode, "0 +0 0");
            reads("-0", 36, mode, "0 -0 0");
            reads("-.0", 10, mode, "0 -0 0");
            reads("-0.", 10, mode, "0 -0 0");
            reads("-000.000@-77", 10, mode, "0 -0 0");
        }
    }

    private static void tapeIsEmpty() {
        for (String text : new String[] {"1.5", "inf", "nan", "-0", "1@99999", "-1@-99999"}) {
            type(text);
            x.read(0, 10, 0);
            tapeHas(0);
        }
    }

    private static void noneOfThese() {
        x.number(0, 7, 0, 0);
        for (String text : new String[] {"", "x", "1x", "1@x", "1@", ".", "+nan", "infx", "1\u0000"}) {
            type(text);
            throwing(UNSUPPORTED, "read of " + text, () -> x.read(0, 10, 0));
            due("the register stays", show(0), "+7b0");
            tapeHas(0);
            due("flags", x.flags(false), 0);
        }
    }

    private static void tapeStays() {
        type("12");
        throwing(ARGUMENT, "base 1", () -> x.read(0, 1, 0));
        throwing(ARGUMENT, "base 37", () -> x.read(0, 37, 0));
        throwing(ARGUMENT, "mode -1", () -> x.read(0, 10, -1));
        throwing(ARGUMENT, "mode 5", () -> x.read(0, 10, 5));
        throwing(ARGUMENT, "register -1", () -> x.read(-1, 10, 0));
        throwing(ARGUMENT, "register 16", () -> x.read(16, 10, 0));
        tapeHas(2);
        due("read", x.read(0, 36, 0) + show(0), "0+19b1");
    }

    private static void readFull() {
        reads("z".repeat(4096), 36, "1 +inf 3");
        x = new TrueFloats();
        reads("-" + "0".repeat(4094) + "1", 36, "0 -1b0 0");
        x = new TrueFloats();
        reads("1" + "0".repeat(4089) + "@-4089", 36, "0 +1b0 0");
        x = new TrueFloats();
        reads("." + "0".repeat(4089) + "1@4090", 36, "0 +1b0 0");
        x = new TrueFloats();
        reads("1" + "0".repeat(4088) + "@+4089", 36, "1 +inf 3");
        x = new TrueFloats();
        reads("." + "0".repeat(4088) + "1@-4090", 36, "-1 +0 5");
        x = new TrueFloats();
        BigInteger ten = BigInteger.TEN;
        reads("." + "0".repeat(4090) + "1@909", 10, nearest(BigInteger.ONE, ten.pow(3182)) + " 1");
        x = new TrueFloats();
        reads("1" + "0".repeat(4095), 10, nearest(ten.pow(4095), BigInteger.ONE) + " 1");
    }

    /** Ternary and quotient, rounded to the nearest with 64 bits; it is never half way here. */
    private static String nearest(BigInteger dividend, BigInteger divisor) {
        int shift = 100 + divisor.bitLength();
        BigInteger many = dividend.shiftLeft(shift).divide(divisor);
        int below = many.bitLength() - 64;
        boolean up = many.testBit(below - 1);
        BigInteger kept = many.shiftRight(below).add(up ? BigInteger.ONE : BigInteger.ZERO);
        int zeros = kept.getLowestSetBit();
        return (up ? "1 +" : "-1 +") + kept.shiftRight(zeros) + "b" + (below - shift + zeros);
    }

    private static void writes(int base, int n, int mode, String want) {
        int power = x.write(0, base, n, mode);
        due(show(0) + " in base " + base + ", " + n + " digits, mode " + mode, out() + "@" + power, want);
    }

    private static void writeCounts() {
        x.number(0, 25, -1, 0);
        writes(10, 1, 0, "1@2");
        writes(10, 2, 0, "12@2");
        writes(10, 3, 0, "125@2");
        writes(10, 4, 0, "1250@2");
        x.write(0, 10, 2000, 0);
        due("2000", x.octet(-1), 2000);
        due("the last", x.octet(1999), 48);
        throwing(ARGUMENT, "2001", () -> x.write(0, 10, 2001, 0));
        due("out stays", x.octet(-1), 2000);
        throwing(ARGUMENT, "-1", () -> x.write(0, 10, -1, 0));
        due("out stays", x.octet(-1), 2000);
        writes(10, 1, 0, "1@2");
    }

    private static void writeBases() {
        for (int base = 2; base <= 36; base++) {
            x = new TrueFloats();
            x.number(0, base - 1, 0, 0);
            writes(base, 1, 0, DIGITS.charAt(base - 1) + "@1");
            x.number(0, base, 0, 0);
            writes(base, 2, 0, "10@2");
            x.number(0, base * base - 1, 0, 0);
            String top = DIGITS.substring(base - 1, base);
            writes(base, 0, 0, top + top + "@2");
            writes(base, 1, 1, top + "@2");
            writes(base, 1, 4, "1@3");
        }
    }

    private static void writeModes() {
        String[] below = {"2@1", "2@1", "3@1", "2@1", "3@1"};
        String[] above = {"3@1", "2@1", "3@1", "2@1", "3@1"};
        String[] exact = {"2@1", "2@1", "2@1", "2@1", "2@1"};
        x.precision(0, 200);
        for (int mode = 0; mode <= 4; mode++) {
            x.number(0, 2, 0, 0);
            writes(10, 1, mode, exact[mode]);
            x.neighbour(0, true);
            writes(10, 1, mode, below[mode]);
            x.number(0, 5, -1, 0);
            x.neighbour(0, false);
            writes(10, 1, mode, below[mode]);
            x.number(0, 5, -1, 0);
            x.neighbour(0, true);
            writes(10, 1, mode, above[mode]);
        }
    }

    private static void writeTies() {
        x.number(0, 5, -1, 0);
        writes(10, 1, 0, "2@1");
        x.number(0, 7, -1, 0);
        writes(10, 1, 0, "4@1");
        x.number(0, 25, -1, 0);
        writes(10, 2, 0, "12@2");
        x.number(0, 27, -1, 0);
        writes(10, 2, 0, "14@2");
        // 11.1 in base 2; as an integer of two digits it is 11 or 100, which is even.
        x.number(0, 7, -1, 0);
        writes(2, 2, 0, "10@3");
        x.number(0, 5, -1, 0);
        writes(2, 2, 0, "10@2");
        // In an odd base it is not the last digit that tells: 12 in base 3 is 5, and 20 is 6.
        x.number(0, 11, -1, 0);
        writes(3, 2, 0, "20@2");
        x.number(0, 9, -1, 0);
        writes(3, 2, 0, "11@2");
        x.number(0, 199, -1, 0);
        writes(10, 2, 0, "10@3");
        x.number(0, 197, -1, 0);
        writes(10, 2, 0, "98@2");
    }

    private static void writeSigns() {
        x.number(0, 9, -2, 0);
        writes(10, 2, 2, "23@1");
        writes(10, 2, 3, "22@1");
        writes(10, 2, 4, "23@1");
        writes(10, 2, 1, "22@1");
        x.number(0, -9, -2, 0);
        writes(10, 2, 2, "22@1");
        writes(10, 2, 3, "23@1");
        writes(10, 2, 4, "23@1");
        writes(10, 2, 1, "22@1");
        writes(10, 2, 0, "22@1");
    }

    /** At a power of the base and just below it. */
    private static void writePowers() {
        for (int base : new int[] {2, 3, 10, 16, 32, 35, 36}) {
            x = new TrueFloats();
            x.precision(0, 300);
            x.number(1, base, 0, 0);
            for (int k = 0; k <= 32; k += 16) {
                x.power(0, 1, k, 0);
                writes(base, 3, 1, "100@" + (k + 1));
                x.neighbour(0, false);
                String top = DIGITS.substring(base - 1, base).repeat(3);
                writes(base, 3, 1, top + "@" + k);
            }
        }
        // The reciprocals of these are no floats: just above them and just below.
        for (int base : new int[] {3, 10, 35, 36}) {
            x = new TrueFloats();
            x.number(1, base, 0, 0);
            for (int k = 1; k <= 32; k += 31) {
                x.power(0, 1, -k, 2);
                writes(base, 3, 1, "100@" + (1 - k));
                x.power(0, 1, -k, 3);
                writes(base, 3, 1, DIGITS.substring(base - 1, base).repeat(3) + "@" + -k);
            }
        }
        x = new TrueFloats();
        x.number(0, 1, -1, 0);
        writes(2, 1, 0, "1@0");
        writes(10, 1, 0, "5@0");
        writes(36, 1, 0, "i@0");
        x.number(0, 1, -4, 0);
        writes(16, 1, 0, "1@0");
        writes(10, 4, 0, "6250@-1");
        x.number(0, 1, -5, 0);
        writes(16, 1, 0, "8@-1");
    }

    private static void writeCarries() {
        x.number(0, 999, 0, 0);
        writes(10, 2, 0, "10@4");
        writes(10, 2, 2, "10@4");
        writes(10, 2, 3, "99@3");
        writes(10, 3, 4, "999@3");
        x.number(0, -999, 0, 0);
        writes(10, 2, 3, "10@4");
        x.number(0, 7, 0, 0);
        writes(2, 2, 0, "10@4");
        writes(2, 2, 1, "11@3");
        x.number(0, 1, 0, 0);
        x.neighbour(0, false);
        writes(10, 5, 0, "10000@1");
        writes(10, 5, 1, "99999@0");
        x.number(0, 19, -1, 0);
        writes(10, 1, 0, "1@2");
        writes(10, 1, 1, "9@1");
    }

    private static void writeWidest() {
        x.number(0, 1, -16385, 0);
        BigDecimal least = BigDecimal.ONE.divide(BigDecimal.valueOf(2).pow(16385), new MathContext(40));
        String digits = least.round(new MathContext(30, RoundingMode.DOWN)).unscaledValue().toString();
        writes(10, 30, 1, digits + "@-4932");
        x.fromDouble(0, PLUS_INFINITY, 0);
        x.neighbour(0, false);
        BigInteger most = BigInteger.ONE.shiftLeft(64).subtract(BigInteger.ONE).shiftLeft(16320);
        writes(10, 30, 1, most.toString().substring(0, 30) + "@" + most.toString().length());
        x = new TrueFloats();
        x.precision(0, 4096);
        x.number(0, 1, 0, 0);
        x.neighbour(0, true);
        x.write(0, 10, 2000, 0);
        BigDecimal next = BigDecimal.ONE.add(BigDecimal.ONE.divide(BigDecimal.valueOf(2).pow(4095)));
        String all = next.round(new MathContext(2000, RoundingMode.HALF_EVEN)).unscaledValue().toString();
        for (int k : new int[] {0, 1, 1231, 1232, 1233, 1234, 1235, 1998, 1999}) {
            due("digit " + k, (char) x.octet(k), all.charAt(k));
        }
    }

    private static void writeFlags() {
        x.number(0, 1, -16385, 0);
        x.write(0, 10, 1, 2);
        x.write(0, 10, 0, 0);
        due("none", x.flags(false), 0);
        x.precision(1, 2);
        x.number(1, 5, 0, 0);
        x.write(0, 10, 1, 0);
        due("what is set stays", x.flags(true), 1);
        due("the register stays", show(0), "+1b-16385");
    }

    private static void writeFewest() {
        x.precision(0, 53);
        double[] some = {1, 0.1, 0.3, 2.5, 1.0 / 3, 9007199254740993.0, 5e-324, 1.7976931348623157e308};
        String[] wants = {"1@1", "1@0", "3@0", "25@1", "3333333333333333@0", "9007199254740992@16",
            "49406564584124654@-323", "17976931348623157@309"};
        for (int i = 0; i < some.length; i++) {
            from(some[i], 0);
            writes(10, 0, 0, wants[i]);
        }
        x.precision(0, 2);
        x.number(0, 3, 5, 0);
        writes(10, 0, 0, "1@3");
        // 20 is half way between 16 and 24: it is 16, which is even, and not 24.
        x.number(0, 3, 3, 0);
        writes(10, 0, 0, "24@2");
        x.number(0, 1, 4, 0);
        writes(10, 0, 0, "2@2");
        writes(2, 0, 0, "1@5");
        x.number(0, 3, 4, 0);
        writes(2, 0, 0, "11@6");
        writes(16, 0, 0, "3@2");
    }

    /** 100 is nearer to 96 than to 128, though it is less than half of what is between 128 and 192 away. */
    private static void writeFewestOfPowers() {
        x.precision(0, 2);
        x.number(0, 1, 7, 0);
        writes(10, 0, 0, "13@3");
        x.number(0, -1, 7, 0);
        writes(10, 0, 0, "13@3");
        x.number(0, 1, 10, 0);
        writes(10, 0, 0, "1@4");
        x.precision(0, 24);
        x.number(0, 1, 90, 0);
        writes(10, 0, 0, "123794004@28");
    }

    /** In the range, 100 would be 128, the least number there, and 0.02 would be 3 * 2^-7. */
    private static void writeWithoutEnds() {
        x.precision(0, 2);
        x.range(8, 16384, false);
        x.number(0, 1, 7, 0);
        writes(10, 0, 0, "13@3");
        x.precision(0, 3);
        x.range(-4, 9, true);
        x.number(0, 3, -7, 0);
        writes(10, 0, 0, "23@-1");
        x.range(1, 1, false);
        writes(10, 0, 0, "23@-1");
        x.range(-16384, -9, false);
        writes(10, 0, 0, "23@-1");
        due("flags", x.flags(false), 0);
    }

    private static void writeFewestMode() {
        x.precision(0, 53);
        for (int mode = 0; mode <= 4; mode++) {
            from(0.1, 0);
            writes(10, 0, mode, "1@0");
            from(-1.0 / 3, 0);
            writes(10, 0, mode, "3333333333333333@0");
            from(-2.0 / 3, 0);
            writes(10, 0, mode, "6666666666666666@0");
        }
        throwing(ARGUMENT, "mode 5", () -> x.write(0, 10, 0, 5));
        throwing(ARGUMENT, "mode -1", () -> x.write(0, 10, 0, -1));
    }

    private static void writeMany() {
        for (int p : new int[] {2000, 2001, 4095, 4096}) {
            x = new TrueFloats();
            x.precision(0, p);
            x.number(0, 1, 0, 0);
            x.neighbour(0, true);
            due("the power", x.write(0, 2, 0, 0), 1);
            due("as many as it has bits", x.octet(-1), p);
            due("the first", x.octet(0), 49);
            due("the second", x.octet(1), 48);
            due("the last but one", x.octet(p - 2), 48);
            due("the last", x.octet(p - 1), 49);
        }
        x.write(0, 3, 0, 0);
        due("in base 3", x.octet(-1) > 2500 && x.octet(-1) < 2600, true);
        x.write(0, 36, 0, 0);
        due("in base 36", x.octet(-1) > 750 && x.octet(-1) < 800, true);
    }

    private static void writeNone() {
        specials();
        x.write(5, 10, 2, 0);
        for (int r = 0; r <= 4; r++) {
            int register = r;
            throwing(NONE, "5 digits of " + show(r), () -> x.write(register, 10, 5, 0));
            throwing(NONE, "the fewest of " + show(r), () -> x.write(register, 10, 0, 0));
            throwing(ARGUMENT, "base 37 of " + show(r), () -> x.write(register, 37, 5, 0));
            throwing(ARGUMENT, "2001 of " + show(r), () -> x.write(register, 10, 2001, 0));
            due("out stays", out(), "60");
        }
    }

    private static void octets() {
        x.number(0, 1295, 0, 0);
        x.write(0, 36, 4, 0);
        int[] wants = {'z', 'z', '0', '0'};
        for (int k = 0; k < 4; k++) {
            due("octet(" + k + ")", x.octet(k), wants[k]);
        }
        x.number(0, 10, 0, 0);
        x.write(0, 11, 1, 0);
        due("a", x.octet(0), 97);
        x.number(0, 9, 0, 0);
        x.write(0, 11, 1, 0);
        due("9", x.octet(0), 57);
    }

    private static void octetCount() {
        due("at first", x.octet(-1), 0);
        x.number(0, 7, 0, 0);
        x.write(0, 10, 2000, 0);
        due("2000", x.octet(-1), 2000);
        x.write(0, 10, 1, 0);
        due("1", x.octet(-1), 1);
        x.write(0, 2, 0, 0);
        due("3", x.octet(-1), 3);
        type("77");
        x.read(0, 10, 0);
        due("reading leaves it", x.octet(-1), 3);
    }

    private static void octetNone() {
        throwing(NONE, "0 of none", () -> x.octet(0));
        throwing(NONE, "-2 of none", () -> x.octet(-2));
        x.number(0, 7, 0, 0);
        x.write(0, 10, 5, 0);
        due("the last", x.octet(4), 48);
        throwing(NONE, "5 of 5", () -> x.octet(5));
        throwing(NONE, "-2", () -> x.octet(-2));
        throwing(NONE, "the greatest int", () -> x.octet(Integer.MAX_VALUE));
        throwing(NONE, "the least int", () -> x.octet(Integer.MIN_VALUE));
        x.write(0, 10, 2, 0);
        throwing(NONE, "2 of 2, where there was one before", () -> x.octet(2));
        due("and 1", x.octet(1), 48);
    }
}
