import java.util.ArrayList;
import java.util.List;

/** A TrueFloats and a Model that get the same calls; whatever differs is printed with the calls before it. */
final class Pair {
    interface Call {
        long make();
    }

    static int faults = 0;
    static long calls = 0;

    private final TrueFloats real = new TrueFloats();
    final Model model = new Model();
    private final List<String> said = new ArrayList<>();
    private boolean broken = false;

    static String answer(Call call) {
        try {
            return Long.toString(call.make());
        } catch (RuntimeException e) {
            return "throws." + e.getClass().getSimpleName();
        }
    }

    private String same(String text, Call ofReal, Call ofModel) {
        calls++;
        String due = answer(ofModel);
        String got = answer(ofReal);
        said.add(text + " = " + got);
        if (!due.equals(got) && !broken) {
            broken = true;
            faults++;
            if (faults <= 20) {
                System.out.println("due is " + due + " at the end of:");
                said.subList(Math.max(0, said.size() - 25), said.size()).forEach(line -> System.out.println("    " + line));
            }
        }
        return got;
    }

    private static String text(String name, Object... arguments) {
        StringBuilder all = new StringBuilder(name).append('(');
        for (int i = 0; i < arguments.length; i++) {
            all.append(i == 0 ? "" : ", ").append(arguments[i]);
        }
        return all.append(')').toString();
    }

    void precision(int r, int p) {
        same(text("precision", r, p), () -> real.precision(r, p), () -> model.precision(r, p));
    }

    void range(int low, int high, boolean gradual) {
        same(text("range", low, high, gradual), () -> real.range(low, high, gradual),
            () -> model.range(low, high, gradual));
    }

    void flags(boolean take) {
        same(text("flags", take), () -> real.flags(take), () -> model.flags(take));
    }

    void number(int r, long value, int scale, int mode) {
        same(text("number", r, value, scale, mode), () -> real.number(r, value, scale, mode),
            () -> model.number(r, value, scale, mode));
    }

    void copy(int r, int a, int how, int mode) {
        same(text("copy", r, a, how, mode), () -> real.copy(r, a, how, mode), () -> model.copy(r, a, how, mode));
    }

    void reckon(int operation, int r, int a, int b, int mode) {
        same(text("reckon", operation, r, a, b, mode), () -> real.reckon(operation, r, a, b, mode),
            () -> model.reckon(operation, r, a, b, mode));
    }

    void fused(int r, int a, int b, int c, int mode) {
        same(text("fused", r, a, b, c, mode), () -> real.fused(r, a, b, c, mode),
            () -> model.fused(r, a, b, c, mode));
    }

    void root(int r, int a, int n, int mode) {
        same(text("root", r, a, n, mode), () -> real.root(r, a, n, mode), () -> model.root(r, a, n, mode));
    }

    void power(int r, int a, int n, int mode) {
        same(text("power", r, a, n, mode), () -> real.power(r, a, n, mode), () -> model.power(r, a, n, mode));
    }

    void whole(int r, int a, int way, int mode) {
        same(text("whole", r, a, way, mode), () -> real.whole(r, a, way, mode), () -> model.whole(r, a, way, mode));
    }

    void sum(int r, int first, int n, int mode) {
        same(text("sum", r, first, n, mode), () -> real.sum(r, first, n, mode), () -> model.sum(r, first, n, mode));
    }

    void dot(int r, int first, int second, int n, int mode) {
        same(text("dot", r, first, second, n, mode), () -> real.dot(r, first, second, n, mode),
            () -> model.dot(r, first, second, n, mode));
    }

    void neighbour(int r, boolean up) {
        same(text("neighbour", r, up), () -> real.neighbour(r, up), () -> model.neighbour(r, up));
    }

    void compare(int a, int b) {
        same(text("compare", a, b), () -> real.compare(a, b), () -> model.compare(a, b));
    }

    void look(int r, int what) {
        same(text("look", r, what), () -> real.look(r, what), () -> model.look(r, what));
    }

    void word(int r, int k) {
        same(text("word", r, k), () -> real.word(r, k), () -> model.word(r, k));
    }

    void fromDouble(int r, long bits, int mode) {
        same(text("fromDouble", r, bits, mode), () -> real.fromDouble(r, bits, mode),
            () -> model.fromDouble(r, bits, mode));
    }

    void toDouble(int r, int mode) {
        same(text("toDouble", r, mode), () -> real.toDouble(r, mode), () -> model.toDouble(r, mode));
    }

    void toLong(int r, int mode) {
        same(text("toLong", r, mode), () -> real.toLong(r, mode), () -> model.toLong(r, mode));
    }

    void feed(int a, int b, int c, int d, int e) {
        same(text("feed", a, b, c, d, e), () -> {
            real.feed(a, b, c, d, e);
            return 0;
        }, () -> model.feed(a, b, c, d, e));
    }

    void end(int n) {
        same(text("end", n), () -> real.end(n), () -> model.end(n));
    }

    void read(int r, int base, int mode) {
        same(text("read", r, base, mode), () -> real.read(r, base, mode), () -> model.read(r, base, mode));
    }

    void write(int r, int base, int n, int mode) {
        same(text("write", r, base, n, mode), () -> real.write(r, base, n, mode),
            () -> model.write(r, base, n, mode));
    }

    void octet(int k) {
        same(text("octet", k), () -> real.octet(k), () -> model.octet(k));
    }

    /** Puts a text on the tape, behind what is there. */
    void type(String text) {
        int old = model.tape.length;
        byte[] padded = new byte[(text.length() + 19) / 20 * 20];
        for (int i = 0; i < text.length(); i++) {
            padded[i] = (byte) text.charAt(i);
        }
        for (int i = 0; i < padded.length; i += 20) {
            feed(four(padded, i), four(padded, i + 4), four(padded, i + 8), four(padded, i + 12), four(padded, i + 16));
        }
        end(old + text.length());
    }

    private static int four(byte[] bytes, int at) {
        return (bytes[at] & 255) << 24 | (bytes[at + 1] & 255) << 16 | (bytes[at + 2] & 255) << 8 | bytes[at + 3] & 255;
    }

    /** All that can be seen of a register. */
    void see(int r) {
        for (int what = 0; what < 4; what++) {
            look(r, what);
        }
        int words = (model.bits[r] + 31) / 32;
        for (int k = 0; k < Math.min(words + 1, 128); k++) {
            word(r, k);
        }
    }

    void seeOut() {
        octet(-1);
        for (int k = 0; k < model.out.length(); k++) {
            octet(k);
        }
        octet(model.out.length());
    }

    void seeAll() {
        for (int r = 0; r < 16; r++) {
            see(r);
        }
        flags(false);
        seeOut();
    }

    static void close(String name) {
        System.out.println(name + ": " + calls + " calls, " + faults + " runs with faults");
        if (faults != 0) {
            System.exit(1);
        }
    }
}
