import java.util.Arrays;
import java.util.NoSuchElementException;

/**
 * Floats with as many bits as one likes: whatever is reckoned with them is the exact real result,
 * rounded once, with the sign of the error and with flags; they are read and written in any base.
 */
public final class TrueFloats {
    private static final int REGISTERS = 16;
    private static final int MOST_BITS = 4096;
    private static final int WIDEST_EXPONENT = 16384;
    private static final int WIDEST_SCALE = 40000;
    private static final int MOST_ON_TAPE = 4096;
    private static final int BYTES_OF_A_FEED = 20;
    private static final int MOST_DIGITS = 2000;
    private static final int HIGHEST_DEGREE = 32;

    private static final int NAN = 0;
    private static final int INFINITE = 1;
    private static final int ZERO = 2;
    private static final int NUMBER = 3;

    private static final int INEXACT = 1;
    private static final int OVERFLOW = 2;
    private static final int UNDERFLOW = 4;
    private static final int INVALID = 8;
    private static final int BY_ZERO = 16;
    private static final int ORDER = 32;

    private static final int NEAREST = 0;
    private static final int UP = 2;
    private static final int DOWN = 3;
    private static final int AWAY = 4;
    /** No mode of the document, but its way 4 of rounding to an integer. */
    private static final int NEAREST_ELSE_AWAY = 5;

    private static final long LOW_WORD = 0xFFFFFFFFL;
    private static final long SIGN_BIT = 1L << 63;
    /** Up to here an int can be multiplied by any base. */
    private static final int MOST_BEFORE_A_DIGIT = 0x7FFFFFFF / 36;
    /** More words than any number has: nothing is cut from a power. */
    private static final int EVERY_WORD = 1 << 24;
    private static final long DOUBLE_NAN = 0x7FF8000000000000L;
    private static final long FRACTION_OF_DOUBLE = 0xFFFFFFFFFFFFFL;

    /** The logarithm of 2 to each base, in units of 2^-40, rounded down. */
    private static final long[] LOGARITHMS_OF_TWO = {
        0L, 0L, 1099511627776L, 693714600361L, 549755813888L, 473533883412L, 425349159792L,
        391653944122L, 366503875925L, 346857300180L, 330985980541L, 317830137717L, 306701012229L,
        297129993061L, 288786217803L, 281428824500L, 274877906944L, 268996115800L, 263676595477L,
        258834837528L, 254403035783L, 250326085740L, 246558692184L, 243063240529L, 239808205105L,
        236766941706L, 233916759645L, 231238200120L, 228714468892L, 226330985831L, 224075023959L,
        221935417752L, 219902325555L, 217967034644L, 216121800214L, 214359711512L, 212674579896L,
    };

    private final Register[] registers = new Register[REGISTERS];
    private final Range current;
    private final Range ofDoubles = new Range(-1021, 1024, true);
    private final Register asDouble = new Register();
    private final Register before = new Register();
    private final Real real = new Real();
    private final Addition addition = new Addition();
    private final Reckoner reckoner;
    private final Reader reader;
    private final Writer writer;
    private final byte[] tape = new byte[MOST_ON_TAPE];
    private int onTape = 0;

    /** Makes an object whose registers hold NaN with 64 bits. */
    public TrueFloats() {
        for (int i = 0; i < REGISTERS; i++) {
            registers[i] = new Register();
        }
        Range widest = new Range(-WIDEST_EXPONENT, WIDEST_EXPONENT, false);
        Power raised = new Power();
        Division division = new Division();
        asDouble.precision = 53;
        current = widest;
        reckoner = new Reckoner(widest, raised, division);
        reader = new Reader(raised, division);
        writer = new Writer(raised, division);
    }

    /** Gives a register a precision and NaN; answers the precision before. */
    public int precision(int register, int p) throws IllegalArgumentException {
        if (isNoRegister(register) || p < 2 || p > MOST_BITS) {
            throw new IllegalArgumentException();
        }
        Register target = registers[register];
        int old = target.precision;
        target.precision = p;
        target.becomeNan();
        return old;
    }

    /** Sets the range; answers the greatest exponent before. */
    public int range(int least, int greatest, boolean gradual) throws IllegalArgumentException {
        if (least < -WIDEST_EXPONENT || greatest > WIDEST_EXPONENT || least > greatest) {
            throw new IllegalArgumentException();
        }
        int old = current.greatest;
        current.least = least;
        current.greatest = greatest;
        current.gradual = gradual;
        return old;
    }

    /** The sum of the flags that are set; they are cleared if take is true. */
    public int flags(boolean take) {
        int set = current.raised;
        if (take) {
            current.raised = 0;
        }
        return set;
    }

    /** value * 2^scale, rounded. */
    public int number(int register, long value, int scale, int mode) throws IllegalArgumentException {
        if (isNoRegister(register) || scale < -WIDEST_SCALE || scale > WIDEST_SCALE || isNoMode(mode)) {
            throw new IllegalArgumentException();
        }
        Register target = registers[register];
        if (value == 0) {
            return target.becomeZero(false);
        }
        // The least long is its own negation, and its bits are those of 2^63.
        real.takeBits(value < 0, value < 0 ? -value : value, scale);
        return current.settle(target, real, mode);
    }

    /** Another register's float, as it is, negated or without its sign, rounded. */
    public int copy(int register, int a, int how, int mode) throws IllegalArgumentException {
        if (isNoRegister(register) || isNoRegister(a) || how < 0 || how > 2 || isNoMode(mode)) {
            throw new IllegalArgumentException();
        }
        Register source = registers[a];
        boolean negative = how == 0 ? source.negative : how == 1 && !source.negative;
        return reckoner.withSign(registers[register], source, negative, mode);
    }

    /** What two registers give by an operation, rounded. */
    public int reckon(int operation, int register, int a, int b, int mode) throws IllegalArgumentException {
        if (operation < 0 || operation > 6 || isNoRegister(register) || isNoRegister(a) || isNoRegister(b)
                || isNoMode(mode)) {
            throw new IllegalArgumentException();
        }
        Register target = registers[register];
        Register x = registers[a];
        Register y = registers[b];
        switch (operation) {
            case 0:
            case 1:
                addition.begin();
                addition.take(x, false);
                addition.take(y, operation == 1);
                return addition.finish(current, target, mode);
            case 2:
                return reckoner.multiply(target, x, y, mode);
            case 3:
                return reckoner.divide(target, x, y, mode);
            case 4:
            case 5:
                return reckoner.remain(target, x, y, operation == 4, mode);
            default:
                return reckoner.hypotenuse(target, x, y, mode);
        }
    }

    /** a times b plus c, rounded once. */
    public int fused(int register, int a, int b, int c, int mode) throws IllegalArgumentException {
        if (isNoRegister(register) || isNoRegister(a) || isNoRegister(b) || isNoRegister(c) || isNoMode(mode)) {
            throw new IllegalArgumentException();
        }
        addition.begin();
        addition.takeProduct(registers[a], registers[b]);
        addition.take(registers[c], false);
        return addition.finish(current, registers[register], mode);
    }

    /** The n-th root, rounded. */
    public int root(int register, int a, int n, int mode) throws IllegalArgumentException {
        if (isNoRegister(register) || isNoRegister(a) || n < 1 || n > HIGHEST_DEGREE || isNoMode(mode)) {
            throw new IllegalArgumentException();
        }
        return reckoner.extract(registers[register], registers[a], n, mode);
    }

    /** The n-th power, rounded. */
    public int power(int register, int a, int n, int mode) throws IllegalArgumentException {
        if (isNoRegister(register) || isNoRegister(a) || n < -HIGHEST_DEGREE || n > HIGHEST_DEGREE
                || isNoMode(mode)) {
            throw new IllegalArgumentException();
        }
        return reckoner.raise(registers[register], registers[a], n, mode);
    }

    /** A register's float rounded to an integer, and that into the register. */
    public int whole(int register, int a, int way, int mode) throws IllegalArgumentException {
        if (isNoRegister(register) || isNoRegister(a) || way < 0 || way > 4 || isNoMode(mode)) {
            throw new IllegalArgumentException();
        }
        Register target = registers[register];
        Register source = registers[a];
        if (source.kind != NUMBER) {
            return target.becomeSpecial(source.kind, source.negative);
        }
        before.takeOver(source);
        real.takeNumber(source);
        real.roundToInteger(way == 4 ? NEAREST_ELSE_AWAY : way);
        // The error that counts is the one beside the operand, so that of the second rounding is put aside.
        int inexactBefore = current.raised & INEXACT;
        if (real.magnitude.size == 0) {
            target.becomeZero(real.negative);
        } else {
            current.settle(target, real, mode);
        }
        int ternary = Register.order(target, before);
        current.raised = (current.raised & ~INEXACT) | inexactBefore | (ternary == 0 ? 0 : INEXACT);
        return ternary;
    }

    /** The sum of n registers, rounded once. */
    public int sum(int register, int first, int n, int mode) throws IllegalArgumentException {
        if (isNoRegister(register) || isNoRow(first, n) || isNoMode(mode)) {
            throw new IllegalArgumentException();
        }
        addition.begin();
        for (int i = first; i < first + n; i++) {
            addition.take(registers[i], false);
        }
        return addition.finish(current, registers[register], mode);
    }

    /** The sum of n products of registers, rounded once. */
    public int dot(int register, int first, int second, int n, int mode) throws IllegalArgumentException {
        if (isNoRegister(register) || isNoRow(first, n) || isNoRow(second, n) || isNoMode(mode)) {
            throw new IllegalArgumentException();
        }
        addition.begin();
        for (int i = 0; i < n; i++) {
            addition.takeProduct(registers[first + i], registers[second + i]);
        }
        return addition.finish(current, registers[register], mode);
    }

    /** Moves a register to the next float in the range; answers its kind. */
    public int neighbour(int register, boolean up) throws IllegalArgumentException {
        if (isNoRegister(register)) {
            throw new IllegalArgumentException();
        }
        Register target = registers[register];
        boolean outward = target.negative != up;
        if (target.kind == ZERO) {
            current.becomeLeast(target, !up);
        } else if (target.kind == INFINITE && !outward) {
            target.becomeGreatest(target.negative, current.greatest);
        } else if (target.kind == NUMBER && outward) {
            current.stepOutward(target, real);
        } else if (target.kind == NUMBER) {
            current.stepInward(target, real);
        }
        return target.kind;
    }

    /** -1, 0 or 1, as a is less than, the same as or greater than b. */
    public int compare(int a, int b) throws IllegalArgumentException, UnsupportedOperationException {
        if (isNoRegister(a) || isNoRegister(b)) {
            throw new IllegalArgumentException();
        }
        if (registers[a].kind == NAN || registers[b].kind == NAN) {
            current.raised |= ORDER;
            throw new UnsupportedOperationException();
        }
        return Register.order(registers[a], registers[b]);
    }

    /** A register's precision, kind, sign or exponent. */
    public int look(int register, int what) throws IllegalArgumentException, NoSuchElementException {
        if (isNoRegister(register) || what < 0 || what > 3) {
            throw new IllegalArgumentException();
        }
        Register source = registers[register];
        if (what == 0) {
            return source.precision;
        }
        if (what == 1) {
            return source.kind;
        }
        if (what == 2 ? source.kind == NAN : source.kind != NUMBER) {
            throw new NoSuchElementException();
        }
        if (what == 2) {
            return source.negative ? 1 : 0;
        }
        return source.exponent;
    }

    /** 32 bits of a number's mantissa. */
    public long word(int register, int k) throws IllegalArgumentException, NoSuchElementException {
        if (isNoRegister(register) || k < 0 || k > 127) {
            throw new IllegalArgumentException();
        }
        if (registers[register].kind != NUMBER) {
            throw new NoSuchElementException();
        }
        return registers[register].mantissa.bitsFrom(32 * k) & LOW_WORD;
    }

    /** The double with these bits, rounded. */
    public int fromDouble(int register, long bits, int mode) throws IllegalArgumentException {
        if (isNoRegister(register) || isNoMode(mode)) {
            throw new IllegalArgumentException();
        }
        Register target = registers[register];
        boolean negative = bits < 0;
        int field = (int) (bits >>> 52) & 2047;
        long fraction = bits & FRACTION_OF_DOUBLE;
        if (field == 2047) {
            return target.becomeSpecial(fraction == 0 ? INFINITE : NAN, negative);
        }
        if (field == 0 && fraction == 0) {
            return target.becomeZero(negative);
        }
        if (field == 0) {
            real.takeBits(negative, fraction, -1074);
        } else {
            real.takeBits(negative, fraction | (FRACTION_OF_DOUBLE + 1), field - 1075);
        }
        return current.settle(target, real, mode);
    }

    /** The bits of the double that a register's float is when it is rounded. */
    public long toDouble(int register, int mode) throws IllegalArgumentException {
        if (isNoRegister(register) || isNoMode(mode)) {
            throw new IllegalArgumentException();
        }
        Register source = registers[register];
        if (source.kind == NUMBER) {
            real.takeNumber(source);
            ofDoubles.settle(asDouble, real, mode);
        } else {
            asDouble.becomeSpecial(source.kind, source.negative);
        }
        return asDouble.bitsOfDouble();
    }

    /** A register's float rounded to an integer, as a long. */
    public long toLong(int register, int mode) throws IllegalArgumentException, UnsupportedOperationException {
        if (isNoRegister(register) || isNoMode(mode)) {
            throw new IllegalArgumentException();
        }
        Register source = registers[register];
        if (source.kind == ZERO) {
            return 0;
        }
        boolean fits = false;
        if (source.kind == NUMBER && source.exponent <= 64) {
            real.takeNumber(source);
            real.roundToInteger(mode);
            fits = real.isLong();
        }
        if (!fits) {
            current.raised |= ORDER;
            throw new UnsupportedOperationException();
        }
        return real.asLong();
    }

    /** Puts twenty bytes on the tape. */
    public void feed(int a, int b, int c, int d, int e) throws IllegalStateException {
        if (onTape + BYTES_OF_A_FEED > MOST_ON_TAPE) {
            throw new IllegalStateException();
        }
        putOnTape(a);
        putOnTape(b);
        putOnTape(c);
        putOnTape(d);
        putOnTape(e);
    }

    /** Cuts the tape to its first n bytes; answers how many went. */
    public int end(int n) throws IllegalArgumentException {
        if (n < 0 || n > onTape) {
            throw new IllegalArgumentException();
        }
        int gone = onTape - n;
        onTape = n;
        return gone;
    }

    /** Reads the tape into a register, rounded. */
    public int read(int register, int base, int mode) throws IllegalArgumentException, UnsupportedOperationException {
        if (isNoRegister(register) || base < 2 || base > 36 || isNoMode(mode)) {
            throw new IllegalArgumentException();
        }
        int length = onTape;
        onTape = 0;
        if (!reader.understands(tape, length, base)) {
            throw new UnsupportedOperationException();
        }
        Register target = registers[register];
        if (reader.kind != NUMBER) {
            return target.becomeSpecial(reader.kind, reader.negative);
        }
        reader.evaluate(real, target.precision);
        return current.settle(target, real, mode);
    }

    /** Writes the digits of a number to out; answers the power of the base before which they stand. */
    public int write(int register, int base, int n, int mode)
            throws IllegalArgumentException, NoSuchElementException {
        if (isNoRegister(register) || base < 2 || base > 36 || n < 0 || n > MOST_DIGITS || isNoMode(mode)) {
            throw new IllegalArgumentException();
        }
        if (registers[register].kind != NUMBER) {
            throw new NoSuchElementException();
        }
        writer.begin(registers[register], base);
        if (n == 0) {
            return writer.spell(writer.fewestDigits(), NEAREST);
        }
        return writer.spell(n, mode);
    }

    /** A byte of out, or for -1 how many there are. */
    public int octet(int k) throws NoSuchElementException {
        if (k < -1 || k >= writer.length) {
            throw new NoSuchElementException();
        }
        return k == -1 ? writer.length : writer.out[k];
    }

    private static boolean isNoRegister(int register) {
        return register < 0 || register >= REGISTERS;
    }

    private static boolean isNoMode(int mode) {
        return mode < 0 || mode > 4;
    }

    private static boolean isNoRow(int first, int n) {
        return isNoRegister(first) || n < 1 || n > REGISTERS || first + n > REGISTERS;
    }

    private void putOnTape(int four) {
        for (int shift = 24; shift >= 0; shift -= 8) {
            if (onTape < MOST_ON_TAPE) {
                tape[onTape] = (byte) (four >>> shift);
                onTape++;
            }
        }
    }

    /** A natural number that is changed in place, so that calls use the same rows again and again. */
    private static final class Natural {
        /** The lowest word first; those from size on are of no meaning. */
        int[] words = new int[8];
        /** How many words it has; the highest is not 0. */
        int size = 0;

        void room(int n) {
            if (words.length < n) {
                words = Arrays.copyOf(words, Math.max(n, 2 * words.length));
            }
        }

        void trim() {
            while (size > 0 && words[size - 1] == 0) {
                size--;
            }
        }

        /** Makes room for n words, those above the number being 0; trim has to follow. */
        void widen(int n) {
            room(n);
            for (int i = size; i < n; i++) {
                words[i] = 0;
            }
            size = Math.max(size, n);
        }

        /** The long is taken without a sign. */
        void setLong(long value) {
            words[0] = (int) value;
            words[1] = (int) (value >>> 32);
            size = 2;
            trim();
        }

        void setPowerOfTwo(int power) {
            int length = (power >> 5) + 1;
            room(length);
            Arrays.fill(words, 0, length, 0);
            words[length - 1] = 1 << (power & 31);
            size = length;
        }

        /** As many ones as told, at least one. */
        void setOnes(int count) {
            int length = (count + 31) >> 5;
            room(length);
            Arrays.fill(words, 0, length, -1);
            words[length - 1] = -1 >>> (32 * length - count);
            size = length;
        }

        void setTo(Natural other) {
            room(other.size);
            System.arraycopy(other.words, 0, words, 0, other.size);
            size = other.size;
        }

        /** Becomes another number, or itself, times 2^shift, rounded down. */
        void setShifted(Natural other, int shift) {
            int length = other.size == 0 ? 0 : Math.max(0, (other.bits() + shift + 31) >> 5);
            room(length);
            // The order matters when the other number is this one.
            if (shift >= 0) {
                for (int i = length - 1; i >= 0; i--) {
                    words[i] = other.bitsFrom(32 * i - shift);
                }
            } else {
                for (int i = 0; i < length; i++) {
                    words[i] = other.bitsFrom(32 * i - shift);
                }
            }
            size = length;
        }

        int bits() {
            return size == 0 ? 0 : 32 * size - Integer.numberOfLeadingZeros(words[size - 1]);
        }

        /** The 32 bits from a position on; beyond both ends they are 0. */
        int bitsFrom(int position) {
            int at = position >> 5;
            int by = position & 31;
            int low = at < 0 || at >= size ? 0 : words[at];
            if (by == 0) {
                return low;
            }
            int high = at < -1 || at + 1 >= size ? 0 : words[at + 1];
            return (low >>> by) | (high << (32 - by));
        }

        boolean bit(int position) {
            return (bitsFrom(position) & 1) != 0;
        }

        boolean anyBelow(int position) {
            if (position <= 0) {
                return false;
            }
            int full = Math.min(position >> 5, size);
            for (int i = 0; i < full; i++) {
                if (words[i] != 0) {
                    return true;
                }
            }
            int rest = position & 31;
            return rest != 0 && full < size && (words[full] << (32 - rest)) != 0;
        }

        int zerosBelow() {
            for (int i = 0; i < size; i++) {
                if (words[i] != 0) {
                    return 32 * i + Integer.numberOfTrailingZeros(words[i]);
                }
            }
            return 0;
        }

        void clearBelow(int position) {
            int full = Math.min(position >> 5, size);
            for (int i = 0; i < full; i++) {
                words[i] = 0;
            }
            if (full < size && (position & 31) != 0) {
                words[full] &= -1 << (position & 31);
            }
            trim();
        }

        void addBit(int position) {
            int at = position >> 5;
            widen(Math.max(size, at + 1) + 1);
            long carry = 1L << (position & 31);
            for (int i = at; carry != 0 && i < size; i++) {
                carry += words[i] & LOW_WORD;
                words[i] = (int) carry;
                carry >>>= 32;
            }
            trim();
        }

        /** Adds another number times 2^shift. */
        void addShifted(Natural other, int shift) {
            widen(Math.max(size, (other.bits() + shift + 31) >> 5) + 1);
            long carry = 0;
            for (int i = shift >> 5; i < size; i++) {
                carry += (words[i] & LOW_WORD) + (other.bitsFrom(32 * i - shift) & LOW_WORD);
                words[i] = (int) carry;
                carry >>>= 32;
            }
            trim();
        }

        /** Takes away another number, which is not greater. */
        void subtract(Natural other) {
            long borrow = 0;
            for (int i = 0; i < size; i++) {
                long taken = i < other.size ? other.words[i] & LOW_WORD : 0;
                borrow += (words[i] & LOW_WORD) - taken;
                words[i] = (int) borrow;
                borrow >>= 32;
            }
            trim();
        }

        /** Takes 1 away from a number that is not 0. */
        void decrease() {
            boolean borrows = true;
            for (int i = 0; borrows && i < size; i++) {
                borrows = words[i] == 0;
                words[i]--;
            }
            trim();
        }

        int order(Natural other) {
            if (size != other.size) {
                return size < other.size ? -1 : 1;
            }
            for (int i = size - 1; i >= 0; i--) {
                if (words[i] != other.words[i]) {
                    return (words[i] & LOW_WORD) < (other.words[i] & LOW_WORD) ? -1 : 1;
                }
            }
            return 0;
        }

        /** Compares as if the highest bits of both stood at the same place. */
        int orderFromTop(Natural other) {
            int mine = bits();
            int its = other.bits();
            int length = (Math.max(mine, its) + 31) >> 5;
            for (int i = 1; i <= length; i++) {
                long here = bitsFrom(mine - 32 * i) & LOW_WORD;
                long there = other.bitsFrom(its - 32 * i) & LOW_WORD;
                if (here != there) {
                    return here < there ? -1 : 1;
                }
            }
            return 0;
        }

        /** Becomes the product of two numbers, none of them this one. */
        void setProduct(Natural a, Natural b) {
            int n = a.size;
            int m = b.size;
            room(n + m);
            Arrays.fill(words, 0, n + m, 0);
            for (int i = 0; i < n; i++) {
                words[i + m] = addRow(i, b, 0, a.words[i]);
            }
            size = n + m;
            trim();
        }

        /** Becomes the square of another number, each product of two words being made once. */
        void setSquare(Natural a) {
            int n = a.size;
            room(2 * n);
            Arrays.fill(words, 0, 2 * n, 0);
            for (int i = 0; i < n; i++) {
                words[i + n] = addRow(2 * i + 1, a, i + 1, a.words[i]);
            }
            long carry = 0;
            int above = 0;
            for (int i = 0; i < n; i++) {
                long own = (a.words[i] & LOW_WORD) * (a.words[i] & LOW_WORD);
                int low = words[2 * i];
                int high = words[2 * i + 1];
                carry += (((low << 1) | above) & LOW_WORD) + (own & LOW_WORD);
                words[2 * i] = (int) carry;
                carry = (carry >>> 32) + (((high << 1) | (low >>> 31)) & LOW_WORD) + (own >>> 32);
                words[2 * i + 1] = (int) carry;
                carry >>>= 32;
                above = high >>> 31;
            }
            size = 2 * n;
            trim();
        }

        /** Adds the words of a from one on, times a factor, at a place; answers what is carried beyond. */
        int addRow(int place, Natural a, int from, int factor) {
            int[] row = a.words;
            int[] sums = words;
            int end = a.size;
            int to = place - from;
            long times = factor & LOW_WORD;
            long carry = 0;
            for (int j = from; j < end; j++) {
                carry += (row[j] & LOW_WORD) * times + (sums[to + j] & LOW_WORD);
                sums[to + j] = (int) carry;
                carry >>>= 32;
            }
            return (int) carry;
        }

        /** Factor and summand are not negative; the factor is not 0. */
        void multiplyAndAdd(int factor, int summand) {
            long carry = summand;
            for (int i = 0; i < size; i++) {
                carry += (words[i] & LOW_WORD) * factor;
                words[i] = (int) carry;
                carry >>>= 32;
            }
            if (carry != 0) {
                room(size + 1);
                words[size] = (int) carry;
                size++;
            }
        }

        /** Divides by a divisor above 0; answers the remainder. */
        int divideBy(int divisor) {
            long rest = 0;
            if (divisor <= 0) {
                return 0;
            }
            for (int i = size - 1; i >= 0; i--) {
                rest = (rest << 32) | (words[i] & LOW_WORD);
                words[i] = (int) (rest / divisor);
                rest %= divisor;
            }
            trim();
            return (int) rest;
        }

        /** Drops its lowest words. */
        void drop(int count) {
            if (count > 0 && count <= size) {
                System.arraycopy(words, count, words, 0, size - count);
                size -= count;
            }
        }
    }

    /** The division of natural numbers, word by word (Knuth's algorithm D). */
    private static final class Division {
        final Natural quotient = new Natural();
        final Natural remainder = new Natural();
        final Natural normal = new Natural();

        /** Divides by a divisor that is not 0; neither number is one of the fields. */
        void divide(Natural dividend, Natural divisor) {
            quotient.size = 0;
            remainder.setTo(dividend);
            int n = divisor.size;
            if (n == 0 || dividend.size < n) {
                return;
            }
            // With its highest bit set, the divisor's highest word tells a quotient's word nearly.
            int shift = 32 * n - divisor.bits();
            normal.setShifted(divisor, shift);
            remainder.setShifted(remainder, shift);
            remainder.widen(remainder.size + 1);
            int steps = remainder.size - n;
            quotient.widen(steps);
            for (int j = steps - 1; j >= 0; j--) {
                quotient.words[j] = nextWord(j, n);
            }
            quotient.trim();
            remainder.trim();
            remainder.setShifted(remainder, -shift);
        }

        private int nextWord(int j, int n) {
            int[] rest = remainder.words;
            long high = normal.words[n - 1] & LOW_WORD;
            long next = n > 1 ? normal.words[n - 2] & LOW_WORD : 0;
            long third = n > 1 ? rest[j + n - 2] & LOW_WORD : 0;
            long top = ((long) rest[j + n] << 32) | (rest[j + n - 1] & LOW_WORD);
            long guess = (top >>> 32) >= high ? LOW_WORD : divideWide(top, high);
            long left = top - guess * high;
            for (int k = 0; k < 2 && left <= LOW_WORD && isAbove(guess * next, (left << 32) | third); k++) {
                guess--;
                left += high;
            }
            if (takeAway(j, n, guess)) {
                guess--;
                putBack(j, n);
            }
            return (int) guess;
        }

        /** The quotient of a long without a sign by a divisor of at most 32 bits. */
        private static long divideWide(long dividend, long divisor) {
            if (divisor <= 0) {
                return 0;
            }
            long half = ((dividend >>> 1) / divisor) << 1;
            return dividend - half * divisor >= divisor ? half + 1 : half;
        }

        private static boolean isAbove(long a, long b) {
            return a + SIGN_BIT > b + SIGN_BIT;
        }

        /** Answers whether more was taken away than there was. */
        private boolean takeAway(int j, int n, long times) {
            int[] rest = remainder.words;
            int[] divisor = normal.words;
            long carry = 0;
            long borrow = 0;
            for (int i = 0; i < n; i++) {
                carry += times * (divisor[i] & LOW_WORD);
                borrow += (rest[i + j] & LOW_WORD) - (carry & LOW_WORD);
                rest[i + j] = (int) borrow;
                borrow >>= 32;
                carry >>>= 32;
            }
            borrow += (rest[j + n] & LOW_WORD) - carry;
            rest[j + n] = (int) borrow;
            return borrow < 0;
        }

        private void putBack(int j, int n) {
            int[] rest = remainder.words;
            long carry = 0;
            for (int i = 0; i < n; i++) {
                carry += (rest[i + j] & LOW_WORD) + (normal.words[i] & LOW_WORD);
                rest[i + j] = (int) carry;
                carry >>>= 32;
            }
            rest[j + n] += (int) carry;
        }
    }

    /** A power of a natural number: value * 2^scale, exact or too small by very little. */
    private static final class Power {
        /** For n up to 32, a power is greater than its cut value by less than 2 to this, and so is a reciprocal. */
        static final int ERROR_BITS = 42;

        Natural value = new Natural();
        Natural spare = new Natural();
        final Natural factor = new Natural();
        int scale;
        /** Whether bits other than 0 were cut off. */
        boolean cut;

        /**
         * Keeps only so many of the highest words on the way. Each cut makes the value less by a factor above
         * 1 - 2^-(32 (most - 1)), and for n up to 32 there are at most 63 such factors in the end.
         */
        void raise(Natural base, int n, int most) {
            factor.setTo(base);
            cut = false;
            int scaleOfFactor = cutTo(factor, most);
            value.setLong(1);
            scale = 0;
            for (int bit = 31 - Integer.numberOfLeadingZeros(n); bit >= 0; bit--) {
                spare.setSquare(value);
                swap();
                scale += scale + cutTo(value, most);
                if ((n >>> bit & 1) != 0) {
                    spare.setProduct(value, factor);
                    swap();
                    scale += scaleOfFactor + cutTo(value, most);
                }
            }
        }

        private void swap() {
            Natural old = value;
            value = spare;
            spare = old;
        }

        private int cutTo(Natural number, int most) {
            int count = number.size - most;
            if (count <= 0) {
                return 0;
            }
            cut = cut || number.anyBelow(32 * count);
            number.drop(count);
            return 32 * count;
        }
    }

    /** A real number other than 0: magnitude * 2^scale, and less than 2^scale more if there is more. */
    private static final class Real {
        boolean negative;
        final Natural magnitude = new Natural();
        int scale;
        boolean more;

        /** The long is taken without a sign. */
        void takeBits(boolean sign, long bits, int power) {
            negative = sign;
            magnitude.setLong(bits);
            scale = power;
            more = false;
        }

        void takeNumber(Register source) {
            negative = source.negative;
            magnitude.setTo(source.mantissa);
            scale = source.exponent - source.precision;
            more = false;
        }

        int exponent() {
            return magnitude.bits() + scale;
        }

        /** Whether it is a multiple of 2^unit. */
        boolean isMultiple(int unit) {
            return !more && !magnitude.anyBelow(unit - scale);
        }

        /** Whether it is rounded away from 0 if it is rounded to a multiple of 2^unit. */
        boolean roundsOutward(int unit, int way) {
            if (isMultiple(unit)) {
                return false;
            }
            int at = unit - scale;
            int besideHalf = -1;
            if (magnitude.bit(at - 1)) {
                besideHalf = more || magnitude.anyBelow(at - 1) ? 1 : 0;
            }
            return goesOutward(way, negative, magnitude.bit(at), besideHalf);
        }

        /** Which way a remainder goes that is not 0: it is below (-1), at (0) or above (1) the half. */
        static boolean goesOutward(int way, boolean negative, boolean odd, int besideHalf) {
            if (way == NEAREST) {
                return besideHalf > 0 || besideHalf == 0 && odd;
            }
            if (way == NEAREST_ELSE_AWAY) {
                return besideHalf >= 0;
            }
            return isOutward(way, negative);
        }

        static boolean isOutward(int way, boolean negative) {
            return way == AWAY || way == UP && !negative || way == DOWN && negative;
        }

        /** The magnitude may become 0. */
        void roundToInteger(int way) {
            if (scale >= 0) {
                return;
            }
            boolean outward = roundsOutward(0, way);
            magnitude.setShifted(magnitude, scale);
            scale = 0;
            if (outward) {
                magnitude.addBit(0);
            }
        }

        /** Asked of integers alone. */
        boolean isLong() {
            int length = exponent();
            boolean isLeast = negative && length == 64 && magnitude.zerosBelow() == magnitude.bits() - 1;
            return magnitude.size == 0 || length <= 63 || isLeast;
        }

        long asLong() {
            magnitude.setShifted(magnitude, scale);
            scale = 0;
            long bits = (magnitude.bitsFrom(0) & LOW_WORD) | ((long) magnitude.bitsFrom(32) << 32);
            return negative ? -bits : bits;
        }
    }

    /** A float with a precision. */
    private static final class Register {
        int precision = 64;
        int kind = NAN;
        boolean negative = false;
        int exponent = 0;
        /** A number's absolute value divided by 2^(exponent - precision): as many bits as the precision. */
        final Natural mantissa = new Natural();

        /** Answers the ternary, as do the two that follow. */
        int becomeNan() {
            return becomeSpecial(NAN, false);
        }

        int becomeZero(boolean sign) {
            return becomeSpecial(ZERO, sign);
        }

        int becomeInfinite(boolean sign) {
            return becomeSpecial(INFINITE, sign);
        }

        int becomeSpecial(int which, boolean sign) {
            kind = which;
            negative = sign;
            return 0;
        }

        void takeOver(Register other) {
            precision = other.precision;
            kind = other.kind;
            negative = other.negative;
            exponent = other.exponent;
            mantissa.setTo(other.mantissa);
        }

        /** The power of two that has this exponent. */
        void becomePowerOfTwo(boolean sign, int power) {
            kind = NUMBER;
            negative = sign;
            exponent = power;
            mantissa.setPowerOfTwo(precision - 1);
        }

        /** The greatest number that has this exponent. */
        void becomeGreatest(boolean sign, int power) {
            kind = NUMBER;
            negative = sign;
            exponent = power;
            mantissa.setOnes(precision);
        }

        /** A real number rounded to a multiple of 2^unit, which is not below its last bit here. */
        void becomeMultiple(Real x, int unit, boolean outward) {
            int power = x.exponent();
            int kept = power - unit;
            if (kept <= 0 && !outward) {
                becomeZero(x.negative);
                return;
            }
            if (kept <= 0) {
                becomePowerOfTwo(x.negative, unit + 1);
                return;
            }
            kind = NUMBER;
            negative = x.negative;
            exponent = power;
            mantissa.setShifted(x.magnitude, precision - x.magnitude.bits());
            mantissa.clearBelow(precision - kept);
            if (outward) {
                mantissa.addBit(precision - kept);
            }
            if (mantissa.bits() > precision) {
                becomePowerOfTwo(x.negative, power + 1);
            }
        }

        boolean isPowerOfTwo() {
            return mantissa.zerosBelow() == precision - 1;
        }

        /** Compares two floats, neither of them NaN. */
        static int order(Register a, Register b) {
            int left = a.signum();
            int right = b.signum();
            if (left != right) {
                return left < right ? -1 : 1;
            }
            if (left == 0 || a.kind == INFINITE && b.kind == INFINITE) {
                return 0;
            }
            if (a.kind != b.kind) {
                return a.kind == INFINITE ? left : -left;
            }
            if (a.exponent != b.exponent) {
                return a.exponent > b.exponent ? left : -left;
            }
            return left * a.mantissa.orderFromTop(b.mantissa);
        }

        int signum() {
            if (kind == ZERO) {
                return 0;
            }
            return negative ? -1 : 1;
        }

        /** Asked of what has been rounded into the range of the doubles. */
        long bitsOfDouble() {
            if (kind == NAN) {
                return DOUBLE_NAN;
            }
            long sign = negative ? SIGN_BIT : 0;
            if (kind == ZERO) {
                return sign;
            }
            if (kind == INFINITE) {
                return sign | 2047L << 52;
            }
            long bits = (mantissa.bitsFrom(0) & LOW_WORD) | ((long) mantissa.bitsFrom(32) << 32);
            if (exponent < -1021) {
                return sign | bits >>> (-1021 - exponent);
            }
            return sign | (long) (exponent + 1022) << 52 | bits & FRACTION_OF_DOUBLE;
        }
    }

    /** The exponents that numbers may have, the rounding into them, and the flags that this sets. */
    private static final class Range {
        int least;
        int greatest;
        boolean gradual;
        int raised = 0;

        Range(int low, int high, boolean slowly) {
            least = low;
            greatest = high;
            gradual = slowly;
        }

        /** An invalid operation: NaN. */
        int refuse(Register target) {
            raised |= INVALID;
            return target.becomeNan();
        }

        private int unitOf(int exponent, int precision) {
            return gradual && exponent < least ? least - precision : exponent - precision;
        }

        /** Rounds a real number into a register; answers the ternary. */
        int settle(Register target, Real x, int mode) {
            int exponent = x.exponent();
            int unit = unitOf(exponent, target.precision);
            boolean outward = x.roundsOutward(unit, mode);
            int change = x.isMultiple(unit) ? 0 : outward ? 1 : -1;
            target.becomeMultiple(x, unit, outward);
            if (target.kind == NUMBER && target.exponent > greatest) {
                change = overflow(target, x.negative, mode);
            } else if (target.kind == NUMBER && !gradual && target.exponent < least) {
                change = underflow(target, x, mode);
            } else if (gradual && exponent < least && change != 0) {
                raised |= UNDERFLOW;
            }
            if (change != 0) {
                raised |= INEXACT;
            }
            return x.negative ? -change : change;
        }

        private int overflow(Register target, boolean negative, int mode) {
            raised |= OVERFLOW;
            if (mode == NEAREST || Real.isOutward(mode, negative)) {
                target.becomeInfinite(negative);
                return 1;
            }
            target.becomeGreatest(negative, greatest);
            return -1;
        }

        private int underflow(Register target, Real x, int mode) {
            raised |= UNDERFLOW;
            boolean outward = Real.isOutward(mode, x.negative);
            if (mode == NEAREST) {
                // Between 2^(least - 2) and 2^(least - 1), the lower end left out.
                boolean isPower = !x.more && x.magnitude.zerosBelow() == x.magnitude.bits() - 1;
                outward = x.exponent() == least - 1 && !isPower;
            }
            if (outward) {
                target.becomePowerOfTwo(x.negative, least);
                return 1;
            }
            target.becomeZero(x.negative);
            return -1;
        }

        /** The number beside 0. */
        void becomeLeast(Register target, boolean negative) {
            target.becomePowerOfTwo(negative, gradual ? least - target.precision + 1 : least);
        }

        /** From a number to the next float that is farther from 0. */
        void stepOutward(Register target, Real scratch) {
            boolean negative = target.negative;
            if (target.exponent < least && !gradual) {
                target.becomePowerOfTwo(negative, least);
                return;
            }
            if (target.exponent <= greatest) {
                scratch.takeNumber(target);
                target.becomeMultiple(scratch, unitOf(target.exponent, target.precision), true);
            }
            if (target.exponent > greatest) {
                target.becomeInfinite(negative);
            }
        }

        /** From a number to the next float that is nearer to 0. */
        void stepInward(Register target, Real scratch) {
            boolean negative = target.negative;
            if (target.exponent > greatest) {
                target.becomeGreatest(negative, greatest);
                return;
            }
            // Half a last bit less, rounded toward 0, is the float before; also below a power of two.
            scratch.takeNumber(target);
            scratch.magnitude.setShifted(scratch.magnitude, 1);
            scratch.scale--;
            scratch.magnitude.decrease();
            int exponent = scratch.exponent();
            if (!gradual && exponent < least) {
                target.becomeZero(negative);
                return;
            }
            target.becomeMultiple(scratch, unitOf(exponent, target.precision), false);
        }
    }

    /** A sum of floats and of products of two, kept exactly until it is rounded. */
    private static final class Addition {
        final Natural plus = new Natural();
        final Natural minus = new Natural();
        final Natural product = new Natural();
        final Real total = new Real();
        /** Both sums count multiples of 2^low. */
        int low;
        boolean nan;
        boolean invalid;
        boolean plusInfinite;
        boolean minusInfinite;
        boolean numbers;
        boolean plusZeros;
        boolean minusZeros;

        void begin() {
            plus.size = 0;
            minus.size = 0;
            low = 0;
            nan = false;
            invalid = false;
            plusInfinite = false;
            minusInfinite = false;
            numbers = false;
            plusZeros = false;
            minusZeros = false;
        }

        void take(Register x, boolean negated) {
            boolean sign = x.negative != negated;
            if (x.kind == NUMBER) {
                takeMagnitude(x.mantissa, x.exponent - x.precision, sign);
            } else {
                takeSpecial(x.kind, sign);
            }
        }

        void takeProduct(Register x, Register y) {
            boolean sign = x.negative != y.negative;
            if (x.kind == NUMBER && y.kind == NUMBER) {
                product.setProduct(x.mantissa, y.mantissa);
                takeMagnitude(product, x.exponent - x.precision + y.exponent - y.precision, sign);
            } else if (x.kind == NAN || y.kind == NAN) {
                nan = true;
            } else if (x.kind != INFINITE && y.kind != INFINITE) {
                takeSpecial(ZERO, sign);
            } else if (x.kind == ZERO || y.kind == ZERO) {
                invalid = true;
            } else {
                takeSpecial(INFINITE, sign);
            }
        }

        private void takeSpecial(int kind, boolean sign) {
            nan = nan || kind == NAN;
            plusInfinite = plusInfinite || kind == INFINITE && !sign;
            minusInfinite = minusInfinite || kind == INFINITE && sign;
            plusZeros = plusZeros || kind == ZERO && !sign;
            minusZeros = minusZeros || kind == ZERO && sign;
        }

        private void takeMagnitude(Natural magnitude, int scale, boolean sign) {
            if (!numbers) {
                low = scale;
            } else if (scale < low) {
                plus.setShifted(plus, low - scale);
                minus.setShifted(minus, low - scale);
                low = scale;
            }
            numbers = true;
            if (sign) {
                minus.addShifted(magnitude, scale - low);
            } else {
                plus.addShifted(magnitude, scale - low);
            }
        }

        /** Rounds the sum into a register; answers the ternary. */
        int finish(Range range, Register target, int mode) {
            if (nan) {
                return target.becomeNan();
            }
            if (invalid || plusInfinite && minusInfinite) {
                return range.refuse(target);
            }
            if (plusInfinite || minusInfinite) {
                return target.becomeInfinite(minusInfinite);
            }
            int order = plus.order(minus);
            if (order == 0) {
                boolean sameZeros = !numbers && plusZeros != minusZeros;
                return target.becomeZero(sameZeros ? minusZeros : mode == DOWN);
            }
            total.negative = order < 0;
            total.magnitude.setTo(order < 0 ? minus : plus);
            total.magnitude.subtract(order < 0 ? plus : minus);
            total.scale = low;
            total.more = false;
            return range.settle(target, total, mode);
        }
    }

    /** Finds n-th roots by Newton's method, with twice as many places in each step. */
    private static final class RootFinder {
        final Power power;
        final Division division;
        final Natural numerator = new Natural();
        final Natural guess = new Natural();
        final Natural last = new Natural();
        /** What the root is taken of, times 2^lift, is at or above 1 and below 2^degree. */
        Natural radicand;
        int lift;
        int degree;
        /** The guess is the root of that times 2^(32 places); the root sought is 2^exponent times as great. */
        int places;
        int exponent;

        RootFinder(Power raised, Division quotients) {
            power = raised;
            division = quotients;
            radicand = guess;
        }

        /** Finds the n-th root (n above 1) of s * 2^scale, well enough for the precision; decide has to follow. */
        void find(Natural s, int scale, int n, int precision) {
            exponent = Math.floorDiv(s.bits() + scale - 1, n);
            radicand = s;
            lift = scale - n * exponent;
            degree = n;
            places = 2;
            guess.setPowerOfTwo(65);
            // From above the root, the guesses fall until only the rounding of a step is left.
            boolean falls = true;
            for (int i = 0; falls && i < 100; i++) {
                last.setTo(guess);
                refine(2);
                numerator.setTo(guess);
                numerator.multiplyAndAdd(1, 2);
                falls = numerator.order(last) < 0;
            }
            int wanted = precision / 32 + 2;
            for (int i = 0; places < wanted && i < 20; i++) {
                refine(Math.min(2 * places - 1, wanted));
            }
        }

        /**
         * One step of Newton's method. If the guess is less than 4 off and there are at most 2 places - 1 new
         * places, the next is less than 4 off, too: the step's own error is below 1, what is cut off the power
         * and the two roundings make no more than 3.
         */
        private void refine(int newPlaces) {
            power.raise(guess, degree - 1, newPlaces + 2);
            numerator.setShifted(radicand, lift + 32 * newPlaces + 32 * places * (degree - 1) - power.scale);
            division.divide(numerator, power.value);
            guess.setShifted(guess, 32 * (newPlaces - places));
            guess.multiplyAndAdd(degree - 1, 0);
            guess.addShifted(division.quotient, 0);
            guess.divideBy(degree);
            places = newPlaces;
        }

        /**
         * Puts the root into result. It is less than 8 away from the guess without its three lowest bits, and so
         * on the same side of every half of a last bit as that is, unless that is such a half itself.
         */
        void decide(int precision, Real result) {
            int below = 32 * places - precision;
            guess.multiplyAndAdd(1, 4);
            guess.clearBelow(3);
            result.magnitude.setTo(guess);
            result.scale = -32 * places;
            result.more = true;
            if (!guess.anyBelow(below)) {
                result.magnitude.setShifted(guess, -below);
                result.scale += below;
                int order = orderOfPower(result.magnitude, result.scale, precision);
                result.more = order != 0;
                if (order > 0) {
                    result.magnitude.decrease();
                }
            }
            result.scale += exponent;
        }

        /** Compares the power of a candidate for the root with the radicand. */
        private int orderOfPower(Natural candidate, int scale, int precision) {
            int zeros = candidate.zerosBelow();
            last.setShifted(candidate, -zeros);
            int lifted = degree * (scale + zeros);
            // So many words nearly always tell, and may be far fewer than all.
            power.raise(last, degree, (precision + radicand.bits()) / 32 + 6);
            int order = orderOfValue(lifted);
            if (!power.cut) {
                return order;
            }
            if (order >= 0) {
                return 1;
            }
            power.value.addBit(Power.ERROR_BITS);
            if (orderOfValue(lifted) <= 0) {
                return -1;
            }
            power.raise(last, degree, EVERY_WORD);
            return orderOfValue(lifted);
        }

        private int orderOfValue(int lifted) {
            int reached = power.value.bits() + power.scale + lifted;
            int wanted = radicand.bits() + lift;
            if (reached != wanted) {
                return reached < wanted ? -1 : 1;
            }
            return power.value.orderFromTop(radicand);
        }
    }

    /** The operations on one float or on two, but for their sum. */
    private static final class Reckoner {
        final Range range;
        final Power power;
        final Division division;
        final RootFinder finder;
        final Real real = new Real();
        final Natural numerator = new Natural();
        final Natural denominator = new Natural();

        Reckoner(Range exponents, Power raised, Division quotients) {
            range = exponents;
            power = raised;
            division = quotients;
            finder = new RootFinder(raised, quotients);
        }

        /** The absolute value of a float, with a sign. */
        int withSign(Register target, Register x, boolean negative, int mode) {
            if (x.kind != NUMBER) {
                return target.becomeSpecial(x.kind, negative);
            }
            real.takeNumber(x);
            real.negative = negative;
            return range.settle(target, real, mode);
        }

        int multiply(Register target, Register x, Register y, int mode) {
            boolean negative = x.negative != y.negative;
            if (x.kind == NAN || y.kind == NAN) {
                return target.becomeNan();
            }
            if (x.kind == ZERO && y.kind == INFINITE || x.kind == INFINITE && y.kind == ZERO) {
                return range.refuse(target);
            }
            if (x.kind != NUMBER || y.kind != NUMBER) {
                boolean infinite = x.kind == INFINITE || y.kind == INFINITE;
                return target.becomeSpecial(infinite ? INFINITE : ZERO, negative);
            }
            real.negative = negative;
            real.magnitude.setProduct(x.mantissa, y.mantissa);
            real.scale = x.exponent - x.precision + y.exponent - y.precision;
            real.more = false;
            return range.settle(target, real, mode);
        }

        int divide(Register target, Register x, Register y, int mode) {
            boolean negative = x.negative != y.negative;
            if (x.kind == NAN || y.kind == NAN) {
                return target.becomeNan();
            }
            if (x.kind != NUMBER && x.kind == y.kind) {
                return range.refuse(target);
            }
            if (x.kind == NUMBER && y.kind == ZERO) {
                range.raised |= BY_ZERO;
            }
            if (x.kind != NUMBER || y.kind != NUMBER) {
                boolean infinite = x.kind == INFINITE || y.kind == ZERO;
                return target.becomeSpecial(infinite ? INFINITE : ZERO, negative);
            }
            int shift = Math.max(0, target.precision + 3 + y.precision - x.precision);
            numerator.setShifted(x.mantissa, shift);
            division.divide(numerator, y.mantissa);
            real.negative = negative;
            real.magnitude.setTo(division.quotient);
            real.scale = x.exponent - x.precision - y.exponent + y.precision - shift;
            real.more = division.remainder.size != 0;
            return range.settle(target, real, mode);
        }

        /** What is left of x less the multiple of y that is nearest, or nearest on the side of 0. */
        int remain(Register target, Register x, Register y, boolean nearest, int mode) {
            boolean negative = x.negative;
            if (x.kind == NAN || y.kind == NAN) {
                return target.becomeNan();
            }
            if (x.kind == INFINITE || y.kind == ZERO) {
                return range.refuse(target);
            }
            if (x.kind == ZERO) {
                return target.becomeZero(negative);
            }
            // Also an x below the half of y is what is left of itself.
            if (y.kind == INFINITE || x.exponent < y.exponent - 1) {
                real.takeNumber(x);
                return range.settle(target, real, mode);
            }
            int scaleOfX = x.exponent - x.precision;
            int scaleOfY = y.exponent - y.precision;
            int low = Math.min(scaleOfX, scaleOfY);
            numerator.setShifted(x.mantissa, scaleOfX - low);
            denominator.setShifted(y.mantissa, scaleOfY - low);
            division.divide(numerator, denominator);
            Natural rest = division.remainder;
            if (rest.size == 0) {
                return target.becomeZero(negative);
            }
            numerator.setShifted(rest, 1);
            boolean odd = division.quotient.bit(0);
            boolean beyond = nearest && Real.goesOutward(NEAREST, false, odd, numerator.order(denominator));
            if (beyond) {
                denominator.subtract(rest);
            }
            real.negative = negative != beyond;
            real.magnitude.setTo(beyond ? denominator : rest);
            real.scale = low;
            real.more = false;
            return range.settle(target, real, mode);
        }

        int hypotenuse(Register target, Register x, Register y, int mode) {
            if (x.kind == INFINITE || y.kind == INFINITE) {
                return target.becomeInfinite(false);
            }
            if (x.kind == NAN || y.kind == NAN) {
                return target.becomeNan();
            }
            if (x.kind == ZERO && y.kind == ZERO) {
                return target.becomeZero(false);
            }
            if (x.kind == ZERO || y.kind == ZERO) {
                real.takeNumber(x.kind == ZERO ? y : x);
                real.negative = false;
                return range.settle(target, real, mode);
            }
            int scaleOfX = 2 * (x.exponent - x.precision);
            int scaleOfY = 2 * (y.exponent - y.precision);
            int low = Math.min(scaleOfX, scaleOfY);
            numerator.setSquare(x.mantissa);
            numerator.setShifted(numerator, scaleOfX - low);
            denominator.setSquare(y.mantissa);
            numerator.addShifted(denominator, scaleOfY - low);
            finder.find(numerator, low, 2, target.precision);
            finder.decide(target.precision, real);
            real.negative = false;
            return range.settle(target, real, mode);
        }

        int extract(Register target, Register x, int n, int mode) {
            boolean negative = x.negative;
            if (x.kind == NAN) {
                return target.becomeNan();
            }
            if (negative && n % 2 == 0 && x.kind != ZERO) {
                return range.refuse(target);
            }
            if (x.kind != NUMBER) {
                return target.becomeSpecial(x.kind, negative);
            }
            if (n == 1) {
                real.takeNumber(x);
            } else {
                finder.find(x.mantissa, x.exponent - x.precision, n, target.precision);
                finder.decide(target.precision, real);
            }
            real.negative = negative;
            return range.settle(target, real, mode);
        }

        int raise(Register target, Register x, int n, int mode) {
            boolean negative = x.negative && n % 2 != 0;
            if (n == 0) {
                real.takeBits(false, 1, 0);
                return range.settle(target, real, mode);
            }
            if (x.kind == NAN) {
                return target.becomeNan();
            }
            if (x.kind != NUMBER) {
                boolean infinite = (x.kind == INFINITE) == (n > 0);
                range.raised |= x.kind == ZERO && n < 0 ? BY_ZERO : 0;
                return target.becomeSpecial(infinite ? INFINITE : ZERO, negative);
            }
            // Without its zeros below, a power that needs no rounding is not cut, either.
            int zeros = x.mantissa.zerosBelow();
            denominator.setShifted(x.mantissa, -zeros);
            int scale = n * (x.exponent - x.precision + zeros);
            int p = target.precision;
            if (!formPower(n, p, p / 32 + 4) && !formPower(n, p, (p + x.precision) / 32 + 6)) {
                formPower(n, p, EVERY_WORD);
            }
            real.negative = negative;
            real.scale += scale;
            return range.settle(target, real, mode);
        }

        /**
         * The power of the odd number in denominator, of which so many words are kept; answers whether it is
         * known well enough: if it is cut, then no half of a last bit may be where the power can be.
         */
        private boolean formPower(int n, int precision, int most) {
            power.raise(denominator, Math.abs(n), most);
            if (n > 0) {
                real.magnitude.setTo(power.value);
                real.scale = power.scale;
                real.more = power.cut;
            } else {
                invert(precision);
            }
            if (!power.cut) {
                return true;
            }
            int below = real.magnitude.bits() - precision - 1;
            boolean before = real.magnitude.bit(below);
            numerator.setTo(real.magnitude);
            numerator.addBit(Power.ERROR_BITS);
            return numerator.bit(below) == before;
        }

        private void invert(int precision) {
            int length = power.value.bits();
            boolean isOne = length == 1;
            int shift = isOne ? 0 : length + (power.cut ? length : precision + 3);
            numerator.setPowerOfTwo(shift);
            division.divide(numerator, power.value);
            real.magnitude.setTo(division.quotient);
            real.scale = -power.scale - shift;
            // Only powers of two have a reciprocal with an end.
            real.more = !isOne;
            if (power.cut) {
                // What the power is too small by makes the reciprocal too great by less than this.
                numerator.setPowerOfTwo(40);
                real.magnitude.subtract(numerator);
            }
        }
    }

    /** Understands what is on the tape. */
    private static final class Reader {
        /** Beyond this, an exponent leads out of every range. */
        static final int HUGE_EXPONENT = 1000000;
        /** Whatever is not between 2^LOWEST and 2^HIGHEST is out of every range. */
        static final int HIGHEST = 16400;
        static final int LOWEST = -20600;
        static final int FAR_OUT = 30000;

        final Power power;
        final Division division;
        final Natural digits = new Natural();
        final Natural scratch = new Natural();
        int radix;
        int kind;
        boolean negative;
        /** How many digits there are from the first on that is not 0. */
        int significant;
        /** The power of the base that the digits, taken as an integer, are multiplied by. */
        int shift;

        Reader(Power raised, Division quotients) {
            power = raised;
            division = quotients;
        }

        /** Tells whether the tape has a float, and keeps its parts. */
        boolean understands(byte[] tape, int length, int base) {
            radix = base;
            negative = false;
            if (isWord(tape, 0, length, "nan")) {
                kind = NAN;
                return true;
            }
            int at = 0;
            if (length > 0 && isSign(tape[0])) {
                negative = tape[0] == '-';
                at = 1;
            }
            if (isWord(tape, at, length, "inf")) {
                kind = INFINITE;
                return true;
            }
            at = takeDigits(tape, at, length);
            if (at < 0 || at < length && !takeExponent(tape, at, length)) {
                return false;
            }
            kind = digits.size == 0 ? ZERO : NUMBER;
            return true;
        }

        private static boolean isWord(byte[] tape, int at, int length, String text) {
            if (length - at != text.length()) {
                return false;
            }
            for (int i = 0; i < text.length(); i++) {
                if (tape[at + i] != text.charAt(i)) {
                    return false;
                }
            }
            return true;
        }

        private static boolean isSign(byte c) {
            return c == '+' || c == '-';
        }

        /** Answers where the digits and the point end, or -1 if there is no digit. */
        private int takeDigits(byte[] tape, int from, int length) {
            boolean point = false;
            boolean any = false;
            int chunk = 0;
            int weight = 1;
            int at = from;
            digits.size = 0;
            significant = 0;
            shift = 0;
            for (; at < length; at++) {
                int digit = valueOf(tape[at]);
                if (tape[at] == '.' && !point) {
                    point = true;
                } else if (digit < 0 || digit >= radix) {
                    break;
                } else {
                    any = true;
                    shift -= point ? 1 : 0;
                    significant += significant > 0 || digit > 0 ? 1 : 0;
                    chunk = chunk * radix + digit;
                    weight *= radix;
                    if (weight > MOST_BEFORE_A_DIGIT) {
                        digits.multiplyAndAdd(weight, chunk);
                        chunk = 0;
                        weight = 1;
                    }
                }
            }
            digits.multiplyAndAdd(weight, chunk);
            return any ? at : -1;
        }

        private static int valueOf(byte c) {
            if (c >= '0' && c <= '9') {
                return c - '0';
            }
            if (c >= 'a' && c <= 'z') {
                return c - 'a' + 10;
            }
            if (c >= 'A' && c <= 'Z') {
                return c - 'A' + 10;
            }
            return -1;
        }

        private boolean takeExponent(byte[] tape, int from, int length) {
            int at = from + 1;
            boolean below = false;
            if (tape[from] != '@') {
                return false;
            }
            if (at < length && isSign(tape[at])) {
                below = tape[at] == '-';
                at++;
            }
            if (at >= length) {
                return false;
            }
            int exponent = 0;
            for (; at < length; at++) {
                int digit = valueOf(tape[at]);
                if (digit < 0 || digit > 9) {
                    return false;
                }
                exponent = Math.min(HUGE_EXPONENT, 10 * exponent + digit);
            }
            shift += below ? -exponent : exponent;
            return true;
        }

        /** Puts the number that was understood into a real, with two bits more than the precision. */
        void evaluate(Real result, int precision) {
            long logarithm = LOGARITHMS_OF_TWO[radix];
            if (significant - 1 + shift > 2 + (HIGHEST * logarithm >> 40)) {
                result.takeBits(negative, 1, FAR_OUT);
                return;
            }
            if (significant + shift < (LOWEST * logarithm >> 40) - 2) {
                result.takeBits(negative, 1, -FAR_OUT);
                return;
            }
            int twos = Integer.numberOfTrailingZeros(radix);
            scratch.setLong(radix >> twos);
            power.raise(scratch, Math.abs(shift), EVERY_WORD);
            result.negative = negative;
            result.scale = twos * shift;
            result.more = false;
            if (shift >= 0) {
                result.magnitude.setProduct(digits, power.value);
                return;
            }
            int places = Math.max(0, precision + 3 + power.value.bits() - digits.bits());
            scratch.setShifted(digits, places);
            division.divide(scratch, power.value);
            result.magnitude.setTo(division.quotient);
            result.scale -= places;
            result.more = division.remainder.size != 0;
        }
    }

    /** Writes the digits of a number. */
    private static final class Writer {
        /** Base 2 needs the most digits: those of the highest precision, and some are tried beyond. */
        static final int MOST_OUT = MOST_BITS + 16;

        final Power power;
        final Division division;
        final byte[] out = new byte[MOST_OUT];
        int length = 0;
        final Natural oddPart = new Natural();
        final Natural numerator = new Natural();
        final Natural denominator = new Natural();
        /** How far numbers of the register's precision are apart, over the denominator. */
        final Natural gap = new Natural();
        final Natural scratch = new Natural();
        Register source;
        int radix;
        int twos;
        /** The number is at or above the radix to the power of first - 1, and below that of first. */
        int first;

        Writer(Power raised, Division quotients) {
            power = raised;
            division = quotients;
            source = new Register();
        }

        void begin(Register number, int base) {
            source = number;
            radix = base;
            twos = Integer.numberOfTrailingZeros(base);
            oddPart.setLong(base >> twos);
            if (base >> twos == 1) {
                first = Math.floorDiv(number.exponent - 1, twos) + 1;
                return;
            }
            first = (int) ((number.exponent - 1) * LOGARITHMS_OF_TWO[base] >> 40) + 1;
            if (reachesPower(first)) {
                first++;
            }
        }

        /** Whether the number is at or above a power of the base. */
        private boolean reachesPower(int k) {
            power.raise(oddPart, Math.abs(k), EVERY_WORD);
            if (k < 0) {
                numerator.setProduct(source.mantissa, power.value);
                return numerator.bits() + source.exponent - source.precision - twos * k > 0;
            }
            int exponent = power.value.bits() + twos * k;
            if (source.exponent != exponent) {
                return source.exponent > exponent;
            }
            return source.mantissa.orderFromTop(power.value) >= 0;
        }

        /** Divides so that the quotient is the number times a power of the base. */
        private void scaleBy(int k) {
            int shift = source.exponent - source.precision + twos * k;
            power.raise(oddPart, Math.abs(k), EVERY_WORD);
            gap.setLong(1);
            denominator.setLong(1);
            if (k >= 0) {
                gap.setTo(power.value);
            } else {
                denominator.setTo(power.value);
            }
            gap.setShifted(gap, Math.max(0, shift));
            denominator.setShifted(denominator, Math.max(0, -shift));
            numerator.setProduct(source.mantissa, gap);
            division.divide(numerator, denominator);
        }

        private boolean quotientGoesUp(int mode) {
            if (division.remainder.size == 0) {
                return false;
            }
            scratch.setShifted(division.remainder, 1);
            int besideHalf = scratch.order(denominator);
            return Real.goesOutward(mode, source.negative, division.quotient.bit(0), besideHalf);
        }

        /** The least count of digits, rounded to the nearest, from which the number can be read again. */
        int fewestDigits() {
            int high = 3 + (int) ((source.precision + 1) * LOGARITHMS_OF_TWO[radix] >> 40);
            int low = 1;
            // Most numbers need nearly as many as any, so that is tried first.
            int probe = Math.max(1, high - 4);
            int limit = high;
            for (int i = 0; low < high && i < 40; i++) {
                if (comesBack(probe, true)) {
                    high = probe;
                } else {
                    low = probe + 1;
                }
                probe = (low + high) >> 1;
            }
            // Below a power of two the numbers are closer: what came near enough may still miss it there.
            while (low < limit && source.isPowerOfTwo() && !comesBack(low, false)) {
                low++;
            }
            return low;
        }

        /** Whether so many digits are nearer to the number than to others; if even, as if all were equally far. */
        private boolean comesBack(int n, boolean even) {
            scaleBy(n - first);
            boolean up = quotientGoesUp(NEAREST);
            Natural distance = division.remainder;
            if (up) {
                denominator.subtract(distance);
                distance = denominator;
            }
            boolean closer = !even && !up && source.isPowerOfTwo();
            scratch.setShifted(distance, closer ? 2 : 1);
            int order = scratch.order(gap);
            return order < 0 || order == 0 && !source.mantissa.bit(0);
        }

        /** Writes n digits; answers the power of the base before which they stand. */
        int spell(int n, int mode) {
            scaleBy(n - first);
            if (quotientGoesUp(mode)) {
                division.quotient.addBit(0);
            }
            length = Math.min(n, MOST_OUT);
            int digits = 1;
            int chunk = radix;
            while (chunk <= MOST_BEFORE_A_DIGIT && digits < 31) {
                chunk *= radix;
                digits++;
            }
            int rest = 0;
            for (int i = length - 1; i >= 0; i--) {
                int place = (length - 1 - i) % digits;
                rest = place == 0 ? division.quotient.divideBy(chunk) : rest;
                out[i] = letterOf(rest % radix);
                rest /= radix;
            }
            boolean carried = rest != 0 || division.quotient.size != 0;
            if (carried) {
                out[0] = '1';
            }
            return carried ? first + 1 : first;
        }

        private static byte letterOf(int digit) {
            return (byte) (digit < 10 ? '0' + digit : 'a' + digit - 10);
        }
    }
}
