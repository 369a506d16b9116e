/** Promise 5: finite answers the sum of the tallies 1 to 6, never wraps, and changes nothing. */
public final class Promise5FiniteTest {
    public static void main(String[] args) {
        Checks.sentence("`int finite()` answers the sum, as an `int`, of tallies 1, 2, 3, 4, 5 and 6",
            Promise5FiniteTest::eachFiniteTallyIsAPart);
        Checks.sentence("that is, of the negative normal, negative subnormal, negative zero, positive zero, positive "
            + "subnormal and positive normal classes.", Promise5FiniteTest::finitePatternsAreSummed);
        Checks.sentence("Tallies 0, 7, 8 and 9 (the two infinities and the two kinds of NaN) are not part of the sum.",
            Promise5FiniteTest::theOtherTalliesAreNoPart);
        Checks.sentence("Since each tally is from 0 to 32767, the answer is from 0 to 196602",
            Promise5FiniteTest::theLeastAndTheGreatestSum);
        Checks.sentence("it never wraps around.", Promise5FiniteTest::theSumDoesNotWrap);
        Checks.sentence("On a fresh census the answer is 0.", Promise5FiniteTest::freshSumIsZero);
        Checks.sentence("What changes: nothing.", Promise5FiniteTest::summingChangesNothing);
        Checks.sentence("`finite` never throws.", Promise5FiniteTest::finiteDoesNotThrow);
        Checks.end();
    }

    private static void eachFiniteTallyIsAPart() {
        for (int c = 1; c <= 6; c++) {
            for (int v : Checks.FITTING) {
                FpClassify census = new FpClassify();
                census.preset(c, v);
                Checks.due("only tally " + c + " at " + v + ": finite()", census.finite(), v);
            }
        }
        Checks.due("distinct: finite()", Checks.distinctCensus().finite(), 2001 + 3003 + 4007 + 5015 + 6031 + 7063);
    }

    private static void finitePatternsAreSummed() {
        FpClassify census = new FpClassify();
        int[] patterns = {0xBF800000, 0x80000001, 0x80000000, 0x00000000, 0x00000001, 0x3F800000};
        int want = 0;
        for (int bits : patterns) {
            census.classify(bits);
            want++;
            Checks.due("finite() after classify(0x" + Integer.toHexString(bits) + ")", census.finite(), want);
        }
        census.preset(3, 41);
        Checks.due("finite() after preset(3, 41)", census.finite(), want + 40);
        census.preset(3, -5);
        Checks.due("finite() after preset(3, -5)", census.finite(), want - 1);
        census.preset(10, 9);
        Checks.due("finite() after the refused preset(10, 9)", census.finite(), want - 1);
    }

    private static void theOtherTalliesAreNoPart() {
        int[] others = {0, 7, 8, 9};
        for (int[] state : Checks.states()) {
            FpClassify census = Checks.censusOf(state);
            int sum = state[1] + state[2] + state[3] + state[4] + state[5] + state[6];
            for (int c : others) {
                for (int v : Checks.allValues()) {
                    census.preset(c, v);
                    Checks.due("finite() after preset(" + c + ", " + v + ")", census.finite(), sum);
                    census.classify(Checks.patternOf(c));
                    Checks.due("finite() after one more of class " + c, census.finite(), sum);
                }
            }
        }
    }

    private static void theLeastAndTheGreatestSum() {
        FpClassify census = Checks.distinctCensus();
        for (int c = 0; c < Checks.CLASSES; c++) {
            census.preset(c, Integer.MIN_VALUE);
        }
        Checks.due("all emptied: finite()", census.finite(), 0);
        for (int c = 0; c < Checks.CLASSES; c++) {
            census.preset(c, Integer.MAX_VALUE);
        }
        Checks.due("all full: finite()", census.finite(), 196602);
        for (int c = 0; c < Checks.CLASSES; c++) {
            census.classify(Checks.patternOf(c));
            Checks.due("all full and one more of class " + c + ": finite()", census.finite(), 196602);
        }
    }

    /** Step by step over 32767, 65535 and 131071, where a narrower sum would come round. */
    private static void theSumDoesNotWrap() {
        FpClassify census = new FpClassify();
        for (int c = 1; c <= 6; c++) {
            int full = (c - 1) * Checks.GREATEST_TALLY;
            for (int v = 1; v <= Checks.GREATEST_TALLY; v++) {
                census.classify(Checks.patternOf(c));
                Checks.due("classes 1 to " + (c - 1) + " full, class " + c + " at " + v + ": finite()",
                    census.finite(), full + v);
            }
        }
    }

    private static void freshSumIsZero() {
        Checks.due("fresh: finite()", new FpClassify().finite(), 0);
    }

    private static void summingChangesNothing() {
        for (int[] state : Checks.states()) {
            FpClassify census = Checks.censusOf(state);
            int first = census.finite();
            Checks.talliesDue("summed once", census, state);
            for (int time = 0; time < 1000; time++) {
                Checks.due("finite() again", census.finite(), first);
            }
            Checks.talliesDue("summed often", census, state);
        }
    }

    private static void finiteDoesNotThrow() {
        for (int[] state : Checks.states()) {
            FpClassify census = Checks.censusOf(state);
            Checks.doesNotThrow("finite()", census::finite);
        }
    }
}
