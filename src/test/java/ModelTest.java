import java.util.Random;

/** Runs of calls by chance, always the same, on the class and on the model. */
public final class ModelTest {
    private final Random chance;
    private final Pair pair = new Pair();
    private final int mostBits;
    private final int widest;

    private ModelTest(long seed, int mostBits, int widest) {
        chance = new Random(seed);
        this.mostBits = mostBits;
        this.widest = widest;
    }

    public static void main(String[] args) {
        int times = args.length > 0 ? Integer.parseInt(args[0]) : 1;
        long seed = args.length > 1 ? Long.parseLong(args[1]) : 0;
        for (int i = 0; i < 1500 * times; i++) {
            new ModelTest(seed + i, 6, 6).run(200);
            new ModelTest(seed + i, 70, 40).run(100);
        }
        for (int i = 0; i < 150 * times; i++) {
            new ModelTest(seed + i, 300, 2000).run(100);
            new ModelTest(seed + i, 1100, 16384).run(60);
        }
        for (int i = 0; i < 25 * times; i++) {
            new ModelTest(seed + i, 4096, 16384).run(40);
        }
        Pair.close("model");
    }

    private int below(int n) {
        return chance.nextInt(n);
    }

    private int register() {
        return below(60) == 0 ? below(3) * 17 - 1 : below(16);
    }

    private int mode() {
        return below(80) == 0 ? below(2) * 6 - 1 : below(5);
    }

    /** Among low .. high, sometimes just outside. */
    private int among(int low, int high) {
        return below(80) == 0 ? (below(2) == 0 ? low - 1 : high + 1) : low + below(high - low + 1);
    }

    private int exponent() {
        int x = below(2 * widest + 1) - widest;
        return below(3) == 0 ? Math.max(-widest, Math.min(widest, x / (1 + below(50)))) : x;
    }

    private long bits() {
        long x = chance.nextLong() >> below(64);
        return below(4) == 0 ? (1L << below(64)) + below(3) - 1 : x;
    }

    private void run(int calls) {
        for (int r = 0; r < 16; r++) {
            pair.precision(r, 2 + below(mostBits - 1));
            pair.number(r, bits(), exponent(), below(5));
        }
        for (int i = 0; i < calls; i++) {
            step();
        }
        pair.seeAll();
    }

    private void step() {
        int r = register();
        switch (below(26)) {
            case 0:
                pair.precision(r, among(2, mostBits));
                break;
            case 1:
                int low = exponent();
                pair.range(low, low + below(widest), below(2) == 0);
                break;
            case 2:
                pair.flags(below(2) == 0);
                break;
            case 3:
            case 4:
                pair.number(r, bits(), below(50) == 0 ? among(-40000, 40000) : exponent(), mode());
                break;
            case 5:
                pair.copy(r, register(), among(0, 2), mode());
                break;
            case 6:
            case 7:
            case 8:
            case 9:
            case 10:
                pair.reckon(among(0, 6), r, register(), register(), mode());
                break;
            case 11:
                pair.fused(r, register(), register(), register(), mode());
                break;
            case 12:
                pair.root(r, register(), among(1, below(4) == 0 ? 32 : 4), mode());
                break;
            case 13:
                pair.power(r, register(), below(3) == 0 ? among(-32, 32) : below(9) - 4, mode());
                break;
            case 14:
                pair.whole(r, register(), among(0, 4), mode());
                break;
            case 15:
                int first = register();
                pair.sum(r, first, below(20) == 0 ? among(1, 16) : 1 + below(16 - Math.max(0, first % 16)), mode());
                break;
            case 16:
                int count = among(1, 16);
                pair.dot(r, below(Math.max(1, 17 - count)), below(Math.max(1, 17 - count)), count, mode());
                break;
            case 17:
            case 18:
                pair.neighbour(r, below(2) == 0);
                break;
            case 19:
                pair.compare(r, register());
                break;
            case 20:
                pair.fromDouble(r, below(5) == 0 ? chance.nextLong() : Double.doubleToRawLongBits(bits() * Math.scalb(1.0, exponent() / 20)), mode());
                break;
            case 21:
                pair.toDouble(r, mode());
                break;
            case 22:
                pair.toLong(r, mode());
                break;
            case 23:
                readSomething(r);
                break;
            case 24:
                int n = below(3) > 0 ? 0 : among(0, below(20) == 0 ? 2000 : 12);
                pair.write(r, among(2, 36), n, mode());
                pair.seeOut();
                break;
            default:
                special(r);
                break;
        }
        if (r >= 0 && r < 16) {
            pair.see(r);
        }
        pair.flags(false);
    }

    /** Infinities and zeros come too seldom by themselves. */
    private void special(int r) {
        long[] those = {0x7FF0000000000000L, 0xFFF0000000000000L, 0L, 0x8000000000000000L, 0x7FF0000000000001L, 0x3FF0000000000000L};
        pair.fromDouble(r, those[below(those.length)], mode());
    }

    private void readSomething(int r) {
        int base = 2 + below(35);
        StringBuilder text = new StringBuilder();
        if (below(3) == 0) {
            text.append(below(2) == 0 ? '+' : '-');
        }
        int digits = below(8) == 0 ? below(300) : below(12);
        int point = below(3) == 0 ? below(digits + 1) : -1;
        for (int i = 0; i < digits; i++) {
            text.append(i == point ? "." : "");
            int digit = below(30) == 0 ? below(36) : below(base);
            char letter = Character.forDigit(digit, 36);
            text.append(below(2) == 0 ? letter : Character.toUpperCase(letter));
        }
        text.append(point == digits ? "." : "");
        if (below(2) == 0) {
            text.append('@').append(below(3) == 0 ? "-" : "").append(Math.abs(exponent()) / (1 + below(6)));
        }
        if (below(20) == 0) {
            text.setLength(0);
            String[] those = {"nan", "inf", "-inf", "+inf", "+nan", "Inf", "", "-", ".", "1@", "@1", "1@+", "1..", "1.2.", "--1"};
            text.append(those[below(those.length)]);
        }
        pair.type(text.toString());
        pair.read(r, base, mode());
    }
}
