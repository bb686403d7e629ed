import java.math.BigInteger;
import java.util.Random;

/** What lies close to a boundary of the rounding, or at the ends of what there can be, on the class and on the model. */
public final class HardTest {
    private final Random chance = new Random(7);

    public static void main(String[] args) {
        HardTest test = new HardTest();
        int times = args.length > 0 ? Integer.parseInt(args[0]) : 1;
        for (int i = 0; i < times; i++) {
            test.powersBesideOne();
            test.rootsOfPowers();
            test.reciprocals();
            test.wordPatterns();
            test.hypotenuses();
            test.remainders();
            test.longSums();
            test.textsBesideHalves();
            test.longTexts();
            test.farTexts();
            test.fewestDigits();
            test.powersOfTwoInBases();
            test.manyDigits();
        }
        Pair.close("hard");
    }

    private int below(int n) {
        return chance.nextInt(n);
    }

    private int bitsBelow(int most) {
        return 2 + below(below(3) == 0 ? most - 1 : Math.min(most - 1, 200));
    }

    /** A number of all the bits of a register, by chance. */
    private void fill(Pair pair, int r, int exponent) {
        int p = pair.model.bits[r];
        BigInteger m = new BigInteger(p, chance).setBit(p - 1);
        if (below(4) == 0) {
            m = m.shiftRight(p / 2).shiftLeft(p / 2);
        }
        pair.type(m.toString(32));
        pair.read(r, 32, 0);
        pair.precision(14, 2);
        pair.number(14, 1, exponent - p > 16000 ? 16000 : Math.max(-16000, exponent - p), 0);
        pair.reckon(2, r, r, 14, 0);
        pair.see(r);
    }

    private void powersBesideOne() {
        for (int i = 0; i < 60; i++) {
            Pair pair = new Pair();
            int p = bitsBelow(i < 4 ? 4096 : 700);
            pair.precision(0, p);
            pair.precision(1, below(2) == 0 ? p : bitsBelow(700));
            pair.number(0, 1 + below(3), below(5) - 2, 0);
            boolean up = below(2) == 0;
            for (int k = below(3); k >= 0; k--) {
                pair.neighbour(0, up);
            }
            for (int n : new int[] {2, 3, 31, 32, -1, -2, -31, -32}) {
                pair.power(1, 0, n, below(5));
                pair.see(1);
                pair.flags(true);
            }
            for (int n : new int[] {2, 3, 5, 31, 32}) {
                pair.root(1, 0, n, below(5));
                pair.see(1);
                pair.flags(true);
            }
        }
    }

    private void rootsOfPowers() {
        for (int i = 0; i < 120; i++) {
            Pair pair = new Pair();
            int p = bitsBelow(i < 3 ? 4000 : 400);
            int n = 2 + below(below(2) == 0 ? 3 : 31);
            pair.precision(0, p);
            pair.precision(1, Math.min(4096, below(2) == 0 ? n * p : p + below(200)));
            pair.precision(2, Math.max(2, p - below(3)));
            fill(pair, 0, below(40) - 20);
            if (below(2) == 0) {
                pair.copy(0, 0, 1, 0);
            }
            pair.power(1, 0, n, below(5));
            for (int step = 0; step < 3; step++) {
                for (int mode = 0; mode < 5; mode++) {
                    pair.root(2, 1, n, mode);
                    pair.see(2);
                    pair.flags(true);
                }
                pair.neighbour(1, step == 0);
                if (step == 1) {
                    pair.neighbour(1, false);
                }
            }
        }
    }

    private void reciprocals() {
        for (int i = 0; i < 200; i++) {
            Pair pair = new Pair();
            pair.precision(0, bitsBelow(2000));
            pair.precision(1, bitsBelow(2000));
            pair.precision(2, bitsBelow(2000));
            fill(pair, 0, below(100) - 50);
            fill(pair, 1, below(100) - 50);
            for (int mode = 0; mode < 5; mode++) {
                pair.reckon(3, 2, 0, 1, mode);
                pair.see(2);
                pair.power(2, 0, -1 - below(6), mode);
                pair.see(2);
                pair.flags(true);
            }
            // A product of the quotient's bits and one more is half way between two quotients.
            pair.precision(3, Math.min(4096, pair.model.bits[2] + 1));
            pair.precision(4, 4096);
            fill(pair, 3, 3);
            pair.reckon(2, 4, 3, 1, 0);
            for (int mode = 0; mode < 5; mode++) {
                pair.reckon(3, 2, 4, 1, mode);
                pair.see(2);
                pair.flags(true);
            }
        }
    }

    /** Words of zeros, ones and single bits, with which a division guesses its next word wrongly. */
    private void wordPatterns() {
        String[] words = {"00000000", "00000001", "7fffffff", "80000000", "80000001", "ffffffff", "fffffffe", "00010000"};
        for (int i = 0; i < 3000; i++) {
            Pair pair = new Pair();
            pair.precision(15, 32 * (1 + below(8)) + below(2));
            for (int r = 0; r < 3; r++) {
                int count = 1 + below(6);
                StringBuilder text = new StringBuilder();
                for (int k = 0; k < count; k++) {
                    text.append(words[below(words.length)]);
                }
                pair.precision(r, 32 * count + 1);
                pair.type(text.append("1").toString());
                pair.read(r, 16, 1);
            }
            int mode = below(5);
            for (int operation = 2; operation < 7; operation++) {
                pair.reckon(operation, 15, 0, 1, mode);
                pair.see(15);
            }
            // With x near to the product of y and z, remainders are short.
            pair.precision(3, 450);
            pair.reckon(2, 3, 1, 2, 0);
            pair.neighbour(3, below(2) == 0);
            for (int operation = 3; operation < 6; operation++) {
                pair.reckon(operation, 15, 3, 1, mode);
                pair.see(15);
            }
            pair.power(15, 0, below(9) - 4, mode);
            pair.see(15);
            pair.fused(15, 1, 2, 3, mode);
            pair.see(15);
        }
    }

    private void hypotenuses() {
        for (int i = 0; i < 150; i++) {
            Pair pair = new Pair();
            int most = i < 10 ? 4096 : 300;
            pair.precision(0, bitsBelow(most));
            pair.precision(1, bitsBelow(most));
            pair.precision(2, bitsBelow(most));
            if (below(3) == 0) {
                // 3, 4 and 5, and their like: nothing to round.
                pair.number(0, 3L << 20, below(30000) - 15000, 0);
                pair.copy(1, 0, 0, 0);
                pair.precision(3, 4);
                pair.number(3, 4, 0, 0);
                pair.reckon(2, 1, 1, 3, 0);
                pair.number(3, 3, 0, 0);
                pair.reckon(3, 1, 1, 3, 0);
            } else {
                int gap = below(3) == 0 ? 30000 : 40;
                fill(pair, 0, 15000 - below(gap));
                fill(pair, 1, 15000 - below(gap));
            }
            for (int mode = 0; mode < 5; mode++) {
                pair.reckon(6, 2, 0, 1, mode);
                pair.see(2);
                pair.reckon(0, 2, 0, 1, mode);
                pair.see(2);
                pair.reckon(1, 2, 0, 1, mode);
                pair.see(2);
                pair.flags(true);
            }
        }
    }

    private void remainders() {
        for (int i = 0; i < 150; i++) {
            Pair pair = new Pair();
            int most = i < 10 ? 4096 : 100;
            for (int r = 0; r < 3; r++) {
                pair.precision(r, bitsBelow(most));
            }
            int gap = below(3) == 0 ? 30000 : 300;
            fill(pair, 0, 15000 - below(gap));
            fill(pair, 1, 15000 - below(gap));
            if (below(3) == 0) {
                pair.precision(3, 4096);
                pair.number(3, 2 * below(1000) + 1, -1, 0);
                pair.precision(0, 4096);
                pair.reckon(2, 0, 1, 3, 0);
            }
            for (int k = 0; k < 4; k++) {
                pair.reckon(4, 2, 0, 1, below(5));
                pair.see(2);
                pair.reckon(5, 2, 0, 1, below(5));
                pair.see(2);
                pair.copy(k % 2, k % 2, 1, 0);
                pair.flags(true);
            }
        }
    }

    private void longSums() {
        for (int i = 0; i < 40; i++) {
            Pair pair = new Pair();
            int most = i < 4 ? 4096 : 100;
            int gap = below(2) == 0 ? 32000 : 50;
            for (int r = 0; r < 14; r++) {
                pair.precision(r, bitsBelow(most));
                fill(pair, r, 15990 - below(gap));
                pair.copy(r, r, below(2), 0);
            }
            for (int k = 0; k < 10; k++) {
                int n = 1 + below(14);
                pair.sum(15, below(15 - n), n, below(5));
                pair.see(15);
                pair.dot(15, below(15 - n), below(15 - n), n, below(5));
                pair.see(15);
                pair.fused(15, below(14), below(14), below(14), below(5));
                pair.see(15);
                pair.flags(true);
            }
        }
    }

    /** Digits that lie at, just below and just above the middle between two numbers. */
    private void textsBesideHalves() {
        for (int i = 0; i < 200; i++) {
            Pair pair = new Pair();
            int p = bitsBelow(500);
            int e = below(300);
            BigInteger twice = new BigInteger(p + 1, chance).setBit(p).setBit(0);
            // twice / 2^e is twice * 5^e / 10^e.
            BigInteger exact = twice.multiply(BigInteger.valueOf(5).pow(e));
            for (int mode = 0; mode < 5; mode++) {
                for (int beside = -1; beside < 2; beside++) {
                    BigInteger digits = exact.multiply(BigInteger.TEN.pow(3)).add(BigInteger.valueOf(beside));
                    pair.precision(0, p);
                    pair.type((mode == 3 ? "-" : "") + digits + "@-" + (e + 3));
                    pair.read(0, 10, mode);
                    pair.see(0);
                    pair.flags(true);
                }
            }
        }
    }

    private void longTexts() {
        for (int base : new int[] {2, 3, 10, 12, 32, 35, 36}) {
            Pair pair = new Pair();
            StringBuilder text = new StringBuilder();
            while (text.length() < 4060) {
                text.append(Character.forDigit(text.length() == 0 ? 1 : below(base), base));
            }
            text.insert(below(4000), '.');
            pair.precision(0, 4096);
            for (String exponent : new String[] {"", "@-3000", "@-8000", "@-4000", "@300", "@12000"}) {
                pair.type(text + exponent);
                pair.read(0, base, below(5));
                pair.see(0);
                pair.flags(true);
            }
        }
    }

    private void farTexts() {
        for (int i = 0; i < 300; i++) {
            Pair pair = new Pair();
            pair.precision(0, 2 + below(200));
            int least = below(3) == 0 ? -16384 : below(100) - 16384;
            pair.range(least, below(2) == 0 ? 16384 : 16384 - below(300), below(2) == 0);
            int base = 2 + below(35);
            int at = (int) ((below(2) == 0 ? 16380 : -16600) * Math.log(2) / Math.log(base)) + below(40) - 20;
            String exponent = Integer.toString(at);
            if (below(10) == 0) {
                exponent = (below(2) == 0 ? "-" : "+") + "9".repeat(1 + below(300));
            }
            if (below(20) == 0) {
                exponent = "+" + "0".repeat(1 + below(300)) + below(10);
            }
            String digits = new BigInteger(1 + below(100), chance).add(BigInteger.ONE).toString(base);
            pair.type((below(2) == 0 ? "-" : "") + "." + digits + "@" + exponent);
            pair.read(0, base, below(5));
            pair.see(0);
            pair.flags(true);
        }
    }

    private void fewestDigits() {
        for (int i = 0; i < 400; i++) {
            Pair pair = new Pair();
            pair.precision(0, i < 2 ? 1000 : bitsBelow(200));
            int base = 2 + below(35);
            int wide = below(4) == 0 ? 3000 : 60;
            if (below(2) == 0) {
                fill(pair, 0, below(2 * wide) - wide);
            } else {
                pair.type((1 + below(3000)) + "@" + (below(wide) - wide / 2));
                pair.read(0, 10, 0);
                base = below(2) == 0 ? 10 : base;
            }
            pair.write(0, base, 0, below(5));
            pair.seeOut();
            pair.neighbour(0, below(2) == 0);
            pair.write(0, base, 0, below(5));
            pair.seeOut();
            pair.write(0, base, 1 + below(6), below(5));
            pair.seeOut();
        }
    }

    /** Below a power of two the numbers are closer than above. */
    private void powersOfTwoInBases() {
        for (int base = 2; base <= 36; base++) {
            Pair pair = new Pair();
            for (int e = -150; e < 150; e++) {
                pair.precision(0, 2 + below(below(2) == 0 ? 8 : 60));
                pair.number(0, below(2) == 0 ? -1 : 1, e, 0);
                pair.write(0, base, 0, 0);
                pair.seeOut();
                pair.write(0, base, 1 + below(4), below(5));
                pair.seeOut();
            }
        }
    }

    private void manyDigits() {
        for (int base : new int[] {2, 3, 10, 30, 35, 36}) {
            Pair pair = new Pair();
            pair.precision(0, 4096);
            pair.range(-16384, 16384, true);
            fill(pair, 0, 5);
            for (int k = 0; k < 3; k++) {
                pair.write(0, base, 2000, below(5));
                pair.seeOut();
                pair.write(0, base, 1 + below(2000), below(5));
                pair.seeOut();
                pair.precision(1, 64);
                pair.number(1, 1, k == 0 ? 16383 : -16383, 0);
                pair.precision(2, 4096);
                pair.copy(2, 0, 0, 0);
                pair.reckon(2, 0, 0, 1, 1);
                pair.reckon(2, 0, 0, 1, k == 1 ? 4 : 1);
                pair.see(0);
            }
            pair.number(0, 1, -20480, 0);
            pair.see(0);
            pair.write(0, base, 2000, 2);
            pair.seeOut();
            pair.number(0, -1, 16383, 0);
            pair.write(0, base, 2000, 2);
            pair.seeOut();
        }
    }
}
