/** What the tests share: comparing answers with what is due, and looking at all ten tallies at once. */
final class Checks {
    static final int CLASSES = 10;
    static final int GREATEST_TALLY = 32767;

    /** Class numbers that name no tally, among them those whose low bits look like one that does. */
    static final int[] NO_CLASSES = {
        -1, -2, -9, -10, 10, 11, 16, 255, 256, 265, 32767, 32768, 65536, 65541, -65536, -32768,
        1 << 30, Integer.MIN_VALUE, Integer.MIN_VALUE + 1, Integer.MIN_VALUE + 5,
        Integer.MAX_VALUE - 1, Integer.MAX_VALUE
    };

    private static int compared = 0;
    private static int wrong = 0;

    private Checks() {
    }

    static void due(String call, long got, long want) {
        compared++;
        if (got != want) {
            wrong++;
            System.out.println(call + " answered " + got + ", due is " + want);
        }
    }

    static void holds(String claim, boolean truth) {
        compared++;
        if (!truth) {
            wrong++;
            System.out.println("does not hold: " + claim);
        }
    }

    /** A census whose ten tallies all differ, so that a mix-up of two of them shows. */
    static FpClassify distinctCensus() {
        FpClassify census = new FpClassify();
        for (int c = 0; c < CLASSES; c++) {
            census.preset(c, distinct()[c]);
        }
        return census;
    }

    static int[] distinct() {
        return new int[] {1000, 2001, 3003, 4007, 5015, 6031, 7063, 8127, 9255, 10511};
    }

    static void talliesDue(String when, FpClassify census, int... want) {
        for (int c = 0; c < CLASSES; c++) {
            due(when + ": tally(" + c + ")", census.tally(c), want[c]);
        }
    }

    /** Ends the test: exit code 1 if an answer was wrong, or if nothing was compared at all. */
    static void end() {
        System.out.println(compared + " answers compared, " + wrong + " wrong");
        if (wrong != 0 || compared == 0) {
            System.exit(1);
        }
    }
}
