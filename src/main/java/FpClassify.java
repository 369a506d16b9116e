/** A census of IEEE binary32 bit patterns by the ten classes of RISC-V's FCLASS.S. */
public final class FpClassify {
    private static final int NEGATIVE_INFINITY = 0;
    private static final int NEGATIVE_NORMAL = 1;
    private static final int NEGATIVE_SUBNORMAL = 2;
    private static final int NEGATIVE_ZERO = 3;
    private static final int POSITIVE_ZERO = 4;
    private static final int POSITIVE_SUBNORMAL = 5;
    private static final int POSITIVE_NORMAL = 6;
    private static final int POSITIVE_INFINITY = 7;
    private static final int SIGNALLING_NAN = 8;
    private static final int QUIET_NAN = 9;
    private static final int CLASSES = 10;

    private static final int FRACTION_BITS = 23;
    private static final int FRACTION_MASK = 0x7FFFFF;
    private static final int QUIET_BIT = 0x400000;
    private static final int EXPONENT_MASK = 0xFF;

    private static final int GREATEST_TALLY = 32767;
    private static final int NO_SUCH_CLASS = -1;

    private final short[] tallies = new short[CLASSES];

    public FpClassify() {
    }

    /** Counts the pattern in the tally of its class k and answers 1 << k. */
    public int classify(int bits) {
        int k = classOf(bits);
        // A full tally stays: one more would wrap the short to a negative value.
        if (tallies[k] < GREATEST_TALLY) {
            tallies[k] = (short) (tallies[k] + 1);
        }
        return 1 << k;
    }

    /** Sets tally c to v, clamped to 0..32767, and answers what is stored; -1 if there is no tally c. */
    public int preset(int c, int v) {
        if (!isClass(c)) {
            return NO_SUCH_CLASS;
        }
        int stored = clamped(v);
        tallies[c] = (short) stored;
        return stored;
    }

    /** Answers tally c; -1 if there is no tally c. */
    public short tally(int c) {
        if (!isClass(c)) {
            return NO_SUCH_CLASS;
        }
        return tallies[c];
    }

    /** Answers the sum of the tallies of the finite classes. */
    public int finite() {
        int sum = 0;
        // The finite classes are the unbroken stretch of numbers between the two infinities.
        for (int c = NEGATIVE_NORMAL; c <= POSITIVE_NORMAL; c++) {
            sum += tallies[c];
        }
        return sum;
    }

    private static int classOf(int bits) {
        boolean neg = bits < 0;
        int e = (bits >>> FRACTION_BITS) & EXPONENT_MASK;
        int f = bits & FRACTION_MASK;
        if (e == EXPONENT_MASK) {
            if (f == 0) {
                return neg ? NEGATIVE_INFINITY : POSITIVE_INFINITY;
            }
            return (f & QUIET_BIT) != 0 ? QUIET_NAN : SIGNALLING_NAN;
        }
        if (e == 0) {
            if (f == 0) {
                return neg ? NEGATIVE_ZERO : POSITIVE_ZERO;
            }
            return neg ? NEGATIVE_SUBNORMAL : POSITIVE_SUBNORMAL;
        }
        return neg ? NEGATIVE_NORMAL : POSITIVE_NORMAL;
    }

    private static boolean isClass(int c) {
        return c >= 0 && c < CLASSES;
    }

    private static int clamped(int v) {
        if (v < 0) {
            return 0;
        }
        return v > GREATEST_TALLY ? GREATEST_TALLY : v;
    }
}
