import java.util.Arrays;

/** What the tests share: one test for each sentence of the document, and looking at all ten tallies at once. */
final class Checks {
    static final int CLASSES = 10;
    static final int GREATEST_TALLY = 32767;

    /** Class numbers that name no tally, among them those whose low bits look like one that does. */
    static final int[] NO_CLASSES = {
        -1, -2, -9, -10, 10, 11, 16, 255, 256, 265, 32767, 32768, 65536, 65541, -65536, -32768,
        1 << 30, Integer.MIN_VALUE, Integer.MIN_VALUE + 1, Integer.MIN_VALUE + 5,
        Integer.MAX_VALUE - 1, Integer.MAX_VALUE
    };

    /** Values too small for a tally, among them those whose low 16 bits look like one that fits. */
    static final int[] TOO_SMALL = {
        -1, -2, -100, -32767, -32768, -32769, -65435, -65535, -65536, Integer.MIN_VALUE + 1, Integer.MIN_VALUE
    };

    /** Values too large for a tally, among them those whose low 16 bits look like one that fits. */
    static final int[] TOO_LARGE = {
        32768, 32769, 65535, 65536, 65636, 1 << 30, Integer.MAX_VALUE - 1, Integer.MAX_VALUE
    };

    /** Values that a tally can hold, the ends and both sides of each change of width among them. */
    static final int[] FITTING = {0, 1, 2, 100, 127, 128, 255, 256, 16383, 16384, 32766, 32767};

    private static final int[] PATTERNS = {
        0xFF800000, 0xBF800000, 0x80000001, 0x80000000, 0x00000000,
        0x00000001, 0x3F800000, 0x7F800000, 0x7F800001, 0x7FC00000
    };

    private static int sentences = 0;
    private static int broken = 0;
    private static int compared = 0;
    private static int wrong = 0;

    private Checks() {
    }

    /** Runs the test of one sentence; it is broken by a wrong answer, by a throw, or if nothing was compared. */
    static void sentence(String quote, Runnable test) {
        int comparedBefore = compared;
        int wrongBefore = wrong;
        try {
            test.run();
        } catch (Throwable thrown) {
            countWrong("the test ended with " + thrown);
        }
        if (compared == comparedBefore) {
            countWrong("nothing was compared");
        }
        sentences++;
        if (wrong != wrongBefore) {
            broken++;
            System.out.println("BROKEN: " + quote);
        }
    }

    private static void countWrong(String line) {
        wrong++;
        System.out.println(line);
    }

    static void due(String call, long got, long want) {
        compared++;
        if (got != want) {
            countWrong(call + " answered " + got + ", due is " + want);
        }
    }

    static void holds(String claim, boolean truth) {
        compared++;
        if (!truth) {
            countWrong("does not hold: " + claim);
        }
    }

    static void doesNotThrow(String call, Runnable made) {
        compared++;
        try {
            made.run();
        } catch (Throwable thrown) {
            countWrong(call + " threw " + thrown);
        }
    }

    static void inRange(String what, int tally) {
        holds(what + ", " + tally + ", is from 0 to 32767", tally >= 0 && tally <= GREATEST_TALLY);
    }

    /** One pattern of class k. */
    static int patternOf(int k) {
        return PATTERNS[k];
    }

    /** Whether class c is a part of finite(): neither an infinity nor a NaN. */
    static boolean isFinite(int c) {
        return c != 0 && c != 7 && c != 8 && c != 9;
    }

    /** Every value worth trying: too small, fitting and too large. */
    static int[] allValues() {
        int[] values = Arrays.copyOf(TOO_SMALL, TOO_SMALL.length + FITTING.length + TOO_LARGE.length);
        System.arraycopy(FITTING, 0, values, TOO_SMALL.length, FITTING.length);
        System.arraycopy(TOO_LARGE, 0, values, TOO_SMALL.length + FITTING.length, TOO_LARGE.length);
        return values;
    }

    static FpClassify censusOf(int... tallies) {
        FpClassify census = new FpClassify();
        for (int c = 0; c < CLASSES; c++) {
            census.preset(c, tallies[c]);
        }
        return census;
    }

    /** A census whose ten tallies all differ, so that a mix-up of two of them shows. */
    static FpClassify distinctCensus() {
        return censusOf(distinct());
    }

    static int[] distinct() {
        return new int[] {1000, 2001, 3003, 4007, 5015, 6031, 7063, 8127, 9255, 10511};
    }

    static int[] allAt(int value) {
        int[] tallies = new int[CLASSES];
        Arrays.fill(tallies, value);
        return tallies;
    }

    /** The ten tallies of each state that a call may meet: empty, in use, one step from full, full. */
    static int[][] states() {
        return new int[][] {allAt(0), distinct(), allAt(GREATEST_TALLY - 1), allAt(GREATEST_TALLY)};
    }

    static void talliesDue(String when, FpClassify census, int... want) {
        for (int c = 0; c < CLASSES; c++) {
            due(when + ": tally(" + c + ")", census.tally(c), want[c]);
        }
    }

    /** Ends the test: exit code 1 if a sentence was broken, or if none was tested at all. */
    static void end() {
        System.out.println(sentences + " sentences tested, " + broken + " broken; "
            + compared + " answers compared, " + wrong + " wrong");
        if (broken != 0 || wrong != 0 || sentences == 0) {
            System.exit(1);
        }
    }
}
