import java.math.BigInteger;
import java.util.NoSuchElementException;

/** What the tests by hand have in common: an object, what can be seen of it, and what is due. */
abstract class Checks {
    static final Class<IllegalArgumentException> ARGUMENT = IllegalArgumentException.class;
    static final Class<NoSuchElementException> NONE = NoSuchElementException.class;
    static final Class<UnsupportedOperationException> UNSUPPORTED = UnsupportedOperationException.class;
    static final Class<IllegalStateException> STATE = IllegalStateException.class;
    static final long PLUS_INFINITY = 0x7FF0000000000000L;
    static final long MINUS_INFINITY = 0xFFF0000000000000L;
    static final long MINUS_ZERO = 0x8000000000000000L;

    static int wrong = 0;
    static int checks = 0;
    static String about = "";
    static TrueFloats x;

    /** Tells how it went; the exit code is 1 if an answer was wrong. */
    static void finish(String name) {
        System.out.println(name + ": " + checks + " checks, " + wrong + " wrong");
        if (wrong != 0) {
            System.exit(1);
        }
    }

    static void begin(String which) {
        about = which;
        x = new TrueFloats();
    }

    /** A sentence of the document, with a new object. */
    static void sentence(String words, Call test) {
        begin("\"" + words + "\"");
        test.make();
    }

    static void due(String what, Object got, Object want) {
        checks++;
        if (!got.toString().equals(want.toString())) {
            wrong++;
            System.out.println(about + ": " + what + " answered " + got + ", due is " + want);
        }
    }

    interface Call {
        void make();
    }

    /** The call throws this, and nothing that can be seen is another afterwards. */
    static void refuses(Class<? extends RuntimeException> kind, String what, Call call) {
        String before = all();
        throwing(kind, what, call);
        due(what + " leaves all as it was", all(), before);
    }

    static void throwing(Class<? extends RuntimeException> kind, String what, Call call) {
        String got = "nothing";
        try {
            call.make();
        } catch (RuntimeException e) {
            got = e.getClass().getSimpleName();
        }
        due(what + " throws", got, kind.getSimpleName());
    }

    static String all() {
        StringBuilder text = new StringBuilder();
        for (int r = 0; r < 16; r++) {
            text.append(x.look(r, 0)).append(' ').append(show(r)).append('\n');
        }
        return text.append("flags ").append(x.flags(false)).append(" out ").append(out()).append(" tape ")
            .append(tapeLength()).toString();
    }

    static int tapeLength() {
        for (int n = 4096; n >= 0; n--) {
            try {
                x.end(n);
                return n;
            } catch (IllegalArgumentException e) {
                continue;
            }
        }
        return -1;
    }

    /** What a register holds: NaN, inf, 0, or an odd integer and the power of two that it is multiplied by. */
    static String show(int r) {
        int kind = x.look(r, 1);
        if (kind == 0) {
            return "NaN";
        }
        String sign = x.look(r, 2) == 1 ? "-" : "+";
        if (kind != 3) {
            return sign + (kind == 1 ? "inf" : "0");
        }
        int p = x.look(r, 0);
        BigInteger m = BigInteger.ZERO;
        for (int k = 0; 32 * k < p; k++) {
            m = m.add(BigInteger.valueOf(x.word(r, k)).shiftLeft(32 * k));
        }
        int zeros = m.getLowestSetBit();
        int scale = x.look(r, 3) - p + zeros;
        return sign + m.shiftRight(zeros) + "b" + scale;
    }

    static String out() {
        StringBuilder text = new StringBuilder();
        int n = x.octet(-1);
        for (int k = 0; k < n; k++) {
            text.append((char) x.octet(k));
        }
        return text.toString();
    }

    /** Ternary, what is held, and the flags, which are taken. */
    static void gives(String what, int ternary, int r, String want) {
        due(what, ternary + " " + show(r) + " " + x.flags(true), want);
    }

    /** Makes the tape have this text, which may fill it: then the last feed is laid over the one before. */
    static void type(String text) {
        x.end(0);
        int length = text.length();
        int full = length / 20 * 20;
        for (int i = 0; i < full; i += 20) {
            feedFrom(text, i);
        }
        if (full < length && full > 0) {
            x.end(length - 20);
            feedFrom(text, length - 20);
        } else if (full < length) {
            feedFrom(text, 0);
            x.end(length);
        }
    }

    private static void feedFrom(String text, int from) {
        int[] fours = new int[5];
        for (int i = 0; i < 20 && from + i < text.length(); i++) {
            fours[i / 4] |= (text.charAt(from + i) & 255) << 24 - 8 * (i % 4);
        }
        x.feed(fours[0], fours[1], fours[2], fours[3], fours[4]);
    }

    /** The tape has so many bytes, which it keeps. */
    static void tapeHas(int n) {
        throwing(ARGUMENT, "end(" + (n + 1) + ")", () -> x.end(n + 1));
        due("end(" + n + ")", x.end(n), 0);
    }

    /** Fills registers 0 .. 5 with NaN, the infinities, the zeros and 6. */
    static void specials() {
        x.fromDouble(0, 0x7FF8000000000000L, 0);
        x.fromDouble(1, PLUS_INFINITY, 0);
        x.fromDouble(2, MINUS_INFINITY, 0);
        x.fromDouble(3, 0, 0);
        x.fromDouble(4, MINUS_ZERO, 0);
        x.number(5, 6, 0, 0);
        x.flags(true);
    }

    static int from(double value, int mode) {
        return x.fromDouble(0, Double.doubleToRawLongBits(value), mode);
    }
}
