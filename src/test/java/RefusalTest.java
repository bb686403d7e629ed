import java.util.ArrayList;
import java.util.List;

/**
 * Each argument of each method: the last value that is taken and the first that is refused, on both sides; and after
 * a refused call all is as it was. Each call is made on an object of its own.
 */
public final class RefusalTest extends Checks {
    private interface Method {
        void make(int[] a);
    }

    /** A method with arguments that are taken, and for each the least and the greatest that is. */
    private static final class Bounds {
        final String name;
        final Method method;
        final int[] usual;
        final int[] least;
        final int[] greatest;

        Bounds(String called, Method made, int[]... rows) {
            name = called;
            method = made;
            usual = new int[rows.length];
            least = new int[rows.length];
            greatest = new int[rows.length];
            for (int i = 0; i < rows.length; i++) {
                usual[i] = rows[i][0];
                least[i] = rows[i][1];
                greatest[i] = rows[i][2];
            }
        }

        int[] with(int at, int value) {
            int[] arguments = usual.clone();
            arguments[at] = value;
            return arguments;
        }

        String text(int[] arguments) {
            StringBuilder all = new StringBuilder(name).append('(');
            for (int i = 0; i < arguments.length; i++) {
                all.append(i == 0 ? "" : ", ").append(arguments[i]);
            }
            return all.append(')').toString();
        }
    }

    private static final String TEXT = "1.01";

    public static void main(String[] args) {
        for (Bounds bounds : everyMethod()) {
            about = bounds.name;
            for (int at = 0; at < bounds.usual.length; at++) {
                taken(bounds, bounds.with(at, bounds.least[at]));
                taken(bounds, bounds.with(at, bounds.greatest[at]));
                for (int bad : outside(bounds.least[at], bounds.greatest[at])) {
                    refused(bounds, bounds.with(at, bad));
                }
            }
        }
        severalWrong();
        otherExceptions();
        finish("refusals");
    }

    private static int[] outside(int least, int greatest) {
        return new int[] {least - 1, greatest + 1, Integer.MIN_VALUE, Integer.MAX_VALUE};
    }

    private static int[] register(int usual) {
        return new int[] {usual, 0, 15};
    }

    private static int[] mode() {
        return new int[] {1, 0, 4};
    }

    private static int[] among(int usual, int least, int greatest) {
        return new int[] {usual, least, greatest};
    }

    private static List<Bounds> everyMethod() {
        List<Bounds> all = new ArrayList<>();
        all.add(new Bounds("precision", a -> x.precision(a[0], a[1]), register(3), among(9, 2, 4096)));
        all.add(new Bounds("range", a -> x.range(a[0], a[1], false), among(-7, -16384, 6), among(6, -7, 16384)));
        all.add(new Bounds("range with ends that are the same", a -> x.range(a[0], a[1], true), among(-3, -16384, -3),
            among(-3, -3, 16384)));
        all.add(new Bounds("number", a -> x.number(a[0], 5, a[1], a[2]), register(3), among(2, -40000, 40000), mode()));
        all.add(new Bounds("number of 0", a -> x.number(a[0], 0, a[1], a[2]), register(3), among(2, -40000, 40000),
            mode()));
        all.add(new Bounds("copy", a -> x.copy(a[0], a[1], a[2], a[3]), register(3), register(6), among(1, 0, 2), mode()));
        all.add(new Bounds("reckon", a -> x.reckon(a[0], a[1], a[2], a[3], a[4]), among(2, 0, 6), register(3),
            register(6), register(7), mode()));
        all.add(new Bounds("fused", a -> x.fused(a[0], a[1], a[2], a[3], a[4]), register(3), register(6), register(7),
            register(8), mode()));
        all.add(new Bounds("root", a -> x.root(a[0], a[1], a[2], a[3]), register(3), register(6), among(3, 1, 32), mode()));
        all.add(new Bounds("power", a -> x.power(a[0], a[1], a[2], a[3]), register(3), register(6), among(3, -32, 32),
            mode()));
        all.add(new Bounds("power by 0", a -> x.power(a[0], a[1], 0, a[2]), register(3), register(6), mode()));
        all.add(new Bounds("whole", a -> x.whole(a[0], a[1], a[2], a[3]), register(3), register(6), among(3, 0, 4), mode()));
        addRows(all);
        all.add(new Bounds("neighbour up", a -> x.neighbour(a[0], true), register(3)));
        all.add(new Bounds("neighbour down", a -> x.neighbour(a[0], false), register(3)));
        all.add(new Bounds("compare", a -> x.compare(a[0], a[1]), register(6), register(7)));
        all.add(new Bounds("look", a -> x.look(a[0], a[1]), register(6), among(2, 0, 3)));
        all.add(new Bounds("word", a -> x.word(a[0], a[1]), register(6), among(2, 0, 127)));
        all.add(new Bounds("fromDouble", a -> x.fromDouble(a[0], 0x3FF8000000000000L, a[1]), register(3), mode()));
        all.add(new Bounds("fromDouble of NaN", a -> x.fromDouble(a[0], 0x7FF8000000000000L, a[1]), register(3), mode()));
        all.add(new Bounds("toDouble", a -> x.toDouble(a[0], a[1]), register(6), mode()));
        all.add(new Bounds("toLong", a -> x.toLong(a[0], a[1]), register(6), mode()));
        all.add(new Bounds("end", a -> x.end(a[0]), among(1, 0, TEXT.length())));
        all.add(new Bounds("read", a -> x.read(a[0], a[1], a[2]), register(3), among(10, 2, 36), mode()));
        all.add(new Bounds("write", a -> x.write(a[0], a[1], a[2], a[3]), register(6), among(10, 2, 36),
            among(5, 0, 2000), mode()));
        all.add(new Bounds("write of the fewest", a -> x.write(a[0], a[1], 0, a[2]), register(6), among(10, 2, 36), mode()));
        return all;
    }

    private static void addRows(List<Bounds> all) {
        // The first register and how many there are bound each other: none is above 15.
        all.add(new Bounds("sum from 0", a -> x.sum(a[0], 0, a[1], a[2]), register(3), among(2, 1, 16), mode()));
        all.add(new Bounds("sum from 15", a -> x.sum(3, 15, a[0], 0), among(1, 1, 1)));
        all.add(new Bounds("sum", a -> x.sum(3, a[0], a[1], 0), among(6, 0, 11), among(5, 1, 10)));
        all.add(new Bounds("sum of one", a -> x.sum(3, a[0], 1, 0), register(6)));
        all.add(new Bounds("sum of all", a -> x.sum(3, a[0], 16, 0), among(0, 0, 0)));
        all.add(new Bounds("dot from 0", a -> x.dot(a[0], 0, 0, a[1], a[2]), register(3), among(2, 1, 16), mode()));
        all.add(new Bounds("dot, the first further on", a -> x.dot(3, a[0], a[1], a[2], 0), among(9, 0, 11),
            among(4, 0, 11), among(5, 1, 7)));
        all.add(new Bounds("dot, the second further on", a -> x.dot(3, a[0], a[1], a[2], 0), among(4, 0, 11),
            among(9, 0, 11), among(5, 1, 7)));
        all.add(new Bounds("dot of one", a -> x.dot(3, a[0], a[1], 1, 0), register(6), register(7)));
        all.add(new Bounds("dot of all", a -> x.dot(3, a[0], a[1], 16, 0), among(0, 0, 0), among(0, 0, 0)));
    }

    /** Nothing is thrown when all registers hold numbers that are longs. */
    private static void taken(Bounds bounds, int[] arguments) {
        x = new TrueFloats();
        for (int r = 0; r < 16; r++) {
            x.number(r, r + 1, 0, 0);
        }
        type(TEXT);
        String got = "nothing";
        try {
            bounds.method.make(arguments);
        } catch (RuntimeException e) {
            got = e.getClass().getSimpleName();
        }
        due(bounds.text(arguments) + " throws", got, "nothing");
    }

    private static void refused(Bounds bounds, int[] arguments) {
        untouched(ARGUMENT, bounds.text(arguments), () -> bounds.method.make(arguments));
    }

    /** All but the object's memory can be seen: registers, flags, out, and then the tape and the range. */
    private static void untouched(Class<? extends RuntimeException> kind, String what, Call call) {
        prepare();
        String before = seen();
        throwing(kind, what, call);
        due(what + ": what is seen after it", seen(), before);
        rangeAndTape(what);
    }

    /** Registers of 8 to 23 bits with all kinds of floats, flags, a range, out and a tape. */
    private static void prepare() {
        x = new TrueFloats();
        for (int r = 0; r < 16; r++) {
            x.precision(r, 8 + r);
            x.number(r, r % 2 == 0 ? r + 1 : -r - 1, r, 0);
        }
        x.precision(0, 8);
        x.fromDouble(1, PLUS_INFINITY, 0);
        x.fromDouble(2, MINUS_INFINITY, 0);
        x.fromDouble(3, 0, 0);
        x.fromDouble(4, MINUS_ZERO, 0);
        x.range(-100, 90, true);
        x.reckon(3, 5, 6, 7, 0);
        x.reckon(3, 2, 6, 4, 0);
        x.write(6, 10, 2, 0);
        type(TEXT);
    }

    private static String seen() {
        StringBuilder text = new StringBuilder();
        for (int r = 0; r < 16; r++) {
            text.append(x.look(r, 0)).append(':').append(show(r)).append(' ');
        }
        return text.append(x.flags(false)).append(' ').append(out()).toString();
    }

    private static void rangeAndTape(String what) {
        x.flags(true);
        due(what + ": the tape has as much", x.end(TEXT.length()), 0);
        due(what + ": and the same", x.read(0, 10, 2) + show(0), "1+65b-6");
        x.flags(true);
        gives(what + ": the greatest exponent", x.number(0, 1, 89, 0), 0, "0 +1b89 0");
        gives(what + ": beyond", x.number(0, 1, 90, 1), 0, "-1 +255b82 3");
        gives(what + ": the least float", x.number(0, 1, -108, 0), 0, "0 +1b-108 0");
        gives(what + ": its half", x.number(0, 1, -109, 0), 0, "-1 +0 5");
        due(what + ": the greatest exponent before", x.range(0, 0, false), 90);
    }

    /** Several arguments out of their bounds, or one beside what would be refused otherwise, too. */
    private static void severalWrong() {
        about = "the order of testing";
        untouched(ARGUMENT, "compare(0, 16), NaN", () -> x.compare(0, 16));
        untouched(ARGUMENT, "compare(-1, 0), NaN", () -> x.compare(-1, 0));
        untouched(ARGUMENT, "look(0, 4), NaN", () -> x.look(0, 4));
        untouched(ARGUMENT, "look(0, -1), NaN", () -> x.look(0, -1));
        untouched(ARGUMENT, "word(0, 128), NaN", () -> x.word(0, 128));
        untouched(ARGUMENT, "word(3, -1), zero", () -> x.word(3, -1));
        untouched(ARGUMENT, "toLong(0, 5), NaN", () -> x.toLong(0, 5));
        untouched(ARGUMENT, "toLong(1, -1), infinity", () -> x.toLong(1, -1));
        untouched(ARGUMENT, "write(0, 37, 5, 0), NaN", () -> x.write(0, 37, 5, 0));
        untouched(ARGUMENT, "write(0, 1, 5, 0), NaN", () -> x.write(0, 1, 5, 0));
        untouched(ARGUMENT, "write(1, 10, 2001, 0), infinity", () -> x.write(1, 10, 2001, 0));
        untouched(ARGUMENT, "write(3, 10, -1, 0), zero", () -> x.write(3, 10, -1, 0));
        untouched(ARGUMENT, "write(4, 10, 0, 5), zero", () -> x.write(4, 10, 0, 5));
        untouched(ARGUMENT, "precision(16, 1)", () -> x.precision(16, 1));
        untouched(ARGUMENT, "reckon(7, 16, -1, 16, 5)", () -> x.reckon(7, 16, -1, 16, 5));
        wrongBaseOfNoText();
    }

    /** What is no float stays on the tape if another argument is refused first. */
    private static void wrongBaseOfNoText() {
        for (int[] bad : new int[][] {{16, 10, 0}, {-1, 10, 0}, {3, 1, 0}, {3, 37, 0}, {3, 10, 5}, {3, 10, -1}}) {
            prepare();
            type("!!!");
            String before = seen();
            throwing(ARGUMENT, "read of !!!", () -> x.read(bad[0], bad[1], bad[2]));
            due("what is seen after it", seen(), before);
            tapeHas(3);
        }
    }

    /** The exceptions that are not about arguments, and what is told to change with them. */
    private static void otherExceptions() {
        about = "what throws";
        untouched(NONE, "the sign of NaN", () -> x.look(0, 2));
        int[] noNumbers = {0, 1, 2, 3, 4};
        for (int r : noNumbers) {
            untouched(NONE, "the exponent of register " + r, () -> x.look(r, 3));
            untouched(NONE, "word(" + r + ", 0)", () -> x.word(r, 0));
            untouched(NONE, "word(" + r + ", 127)", () -> x.word(r, 127));
            untouched(NONE, "write(" + r + ", 10, 5, 0)", () -> x.write(r, 10, 5, 0));
            untouched(NONE, "write(" + r + ", 2, 0, 0)", () -> x.write(r, 2, 0, 0));
        }
        for (int k : new int[] {-2, 2, 3, Integer.MIN_VALUE, Integer.MAX_VALUE}) {
            untouched(NONE, "octet(" + k + ")", () -> x.octet(k));
        }
        for (int r : new int[] {6, 1, 3}) {
            onlyOrder("compare(0, " + r + ")", () -> x.compare(0, r));
            onlyOrder("compare(" + r + ", 0)", () -> x.compare(r, 0));
        }
        onlyOrder("compare(0, 0)", () -> x.compare(0, 0));
        for (int r : new int[] {0, 1, 2}) {
            onlyOrder("toLong(" + r + ", 0)", () -> x.toLong(r, 0));
        }
        fullTape();
        noText();
    }

    /** The order flag is set, and nothing else is another. */
    private static void onlyOrder(String what, Call call) {
        prepare();
        int flags = x.flags(false);
        String before = seen();
        throwing(UNSUPPORTED, what, call);
        due(what + ": flags", x.flags(true), flags + 32);
        throwing(UNSUPPORTED, what, call);
        due(what + ": flags when none was set", x.flags(true), 32);
        raise();
        due(what + ": what is seen after it", seen(), before);
        rangeAndTape(what);
    }

    /** Sets the flags that were set when all was prepared, without a change of a register. */
    private static void raise() {
        x.reckon(3, 5, 6, 7, 0);
        x.reckon(3, 2, 6, 4, 0);
    }

    private static void fullTape() {
        for (int n : new int[] {4077, 4096}) {
            prepare();
            type("1".repeat(n));
            String before = seen();
            throwing(STATE, "feed behind " + n + " bytes", () -> x.feed(1, 2, 3, 4, 5));
            due("what is seen after it", seen(), before);
            tapeHas(n);
        }
    }

    private static void noText() {
        prepare();
        type("!!!");
        String before = seen();
        throwing(UNSUPPORTED, "read of !!!", () -> x.read(3, 10, 0));
        due("what is seen after it", seen(), before);
        tapeHas(0);
        throwing(UNSUPPORTED, "read of nothing", () -> x.read(3, 10, 0));
        due("what is seen after it", seen(), before);
        tapeHas(0);
    }
}
