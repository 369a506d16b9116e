/** Promise 2: classify decides the class, counts it up to 32767, and answers 1 << k. */
public final class Promise2ClassifyTest {
    /** One pattern of each class, by class number. */
    private static final int[] PATTERN_OF = {
        0xFF800000, 0xBF800000, 0x80000001, 0x80000000, 0x00000000,
        0x00000001, 0x3F800000, 0x7F800000, 0x7F800001, 0x7FC00000
    };

    public static void main(String[] args) {
        examplesOfTheDocument();
        edgesOfEachClass();
        everySignAndExponent();
        onlyTheTallyOfTheClassGrows();
        aFullTallyStays();
        countingFromZeroStopsAtTheGreatest();
        Checks.end();
    }

    private static void classDue(int bits, int k) {
        FpClassify census = new FpClassify();
        String call = "classify(0x" + Integer.toHexString(bits) + ")";
        Checks.due(call, census.classify(bits), 1L << k);
        int[] want = new int[Checks.CLASSES];
        want[k] = 1;
        Checks.talliesDue("after " + call, census, want);
    }

    private static void examplesOfTheDocument() {
        classDue(0x00000000, 4);
        classDue(0x80000000, 3);
        classDue(0x00000001, 5);
        classDue(0x80000001, 2);
        classDue(0x3F800000, 6);
        classDue(0xBF800000, 1);
        classDue(0x7F7FFFFF, 6);
        classDue(0x7F800000, 7);
        classDue(0xFF800000, 0);
        classDue(0x7F800001, 8);
        classDue(0xFF800001, 8);
        classDue(0x7FC00000, 9);
        classDue(0xFFC00000, 9);
        classDue(0x7FFFFFFF, 9);
        classDue(0xFFFFFFFF, 9);
    }

    private static void edgesOfEachClass() {
        classDue(Integer.MIN_VALUE, 3);
        classDue(Integer.MAX_VALUE, 9);
        classDue(0x007FFFFF, 5);
        classDue(0x00400000, 5);
        classDue(0x807FFFFF, 2);
        classDue(0x80400000, 2);
        classDue(0x00800000, 6);
        classDue(0x00800001, 6);
        classDue(0x80800000, 1);
        classDue(0x80800001, 1);
        classDue(0x7F000000, 6);
        classDue(0xFF000000, 1);
        classDue(0xFF7FFFFF, 1);
        classDue(0x7FBFFFFF, 8);
        classDue(0xFFBFFFFF, 8);
        classDue(0x7FC00001, 9);
        classDue(0xFFC00001, 9);
    }

    private static void everySignAndExponent() {
        for (int top = 0; top < 512; top++) {
            checkFraction(top, 0);
            checkFraction(top, 0x3FFFFF);
            checkFraction(top, 0x400001);
            checkFraction(top, 0x7FFFFF);
            for (int bit = 0; bit < 23; bit++) {
                checkFraction(top, 1 << bit);
            }
        }
    }

    private static void checkFraction(int top, int fraction) {
        int bits = top << 23 | fraction;
        classDue(bits, classByOrder(bits));
    }

    /** The class by the order of the magnitudes, not by fields, so that it shares no step with the program. */
    private static int classByOrder(int bits) {
        boolean negative = bits < 0;
        int magnitude = bits & Integer.MAX_VALUE;
        if (magnitude >= 0x7FC00000) {
            return 9;
        }
        if (magnitude > 0x7F800000) {
            return 8;
        }
        int steps = magnitude == 0 ? 0 : magnitude < 0x00800000 ? 1 : magnitude < 0x7F800000 ? 2 : 3;
        return negative ? 3 - steps : 4 + steps;
    }

    private static void onlyTheTallyOfTheClassGrows() {
        for (int k = 0; k < Checks.CLASSES; k++) {
            FpClassify census = Checks.distinctCensus();
            int[] want = Checks.distinct();
            for (int time = 1; time <= 3; time++) {
                Checks.due("class " + k + ", time " + time, census.classify(PATTERN_OF[k]), 1L << k);
                want[k]++;
                Checks.talliesDue("class " + k + ", time " + time, census, want);
            }
        }
    }

    private static void aFullTallyStays() {
        for (int k = 0; k < Checks.CLASSES; k++) {
            FpClassify census = Checks.distinctCensus();
            int[] want = Checks.distinct();
            census.preset(k, 32766);
            want[k] = 32767;
            for (int time = 1; time <= 4; time++) {
                String when = "class " + k + " from 32766, time " + time;
                Checks.due(when, census.classify(PATTERN_OF[k]), 1L << k);
                Checks.talliesDue(when, census, want);
            }
        }
    }

    private static void countingFromZeroStopsAtTheGreatest() {
        for (int k = 0; k < Checks.CLASSES; k++) {
            FpClassify census = new FpClassify();
            for (int time = 1; time <= 70000; time++) {
                String when = "class " + k + " from 0, time " + time;
                Checks.due(when, census.classify(PATTERN_OF[k]), 1L << k);
                Checks.due(when + ": tally", census.tally(k), Math.min(time, Checks.GREATEST_TALLY));
            }
        }
    }
}
