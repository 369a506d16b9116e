/** Promise 5: finite answers the sum of the tallies 1 to 6, never wraps, and changes nothing. */
public final class Promise5FiniteTest {
    public static void main(String[] args) {
        freshSumIsZero();
        eachTallyAlone();
        sumOfDistinctTallies();
        greatestSumDoesNotWrap();
        sumFollowsClassifyAndPreset();
        summingChangesNothing();
        Checks.end();
    }

    private static boolean isFinite(int c) {
        return c != 0 && c != 7 && c != 8 && c != 9;
    }

    private static void freshSumIsZero() {
        Checks.due("fresh: finite()", new FpClassify().finite(), 0);
    }

    private static void eachTallyAlone() {
        int[] values = {1, 100, 32767};
        for (int c = 0; c < Checks.CLASSES; c++) {
            for (int v : values) {
                FpClassify census = new FpClassify();
                census.preset(c, v);
                Checks.due("only tally " + c + " at " + v + ": finite()", census.finite(), isFinite(c) ? v : 0);
            }
        }
    }

    private static void sumOfDistinctTallies() {
        Checks.due("distinct: finite()", Checks.distinctCensus().finite(), 2001 + 3003 + 4007 + 5015 + 6031 + 7063);
    }

    private static void greatestSumDoesNotWrap() {
        FpClassify census = new FpClassify();
        int want = 0;
        for (int c = 0; c < Checks.CLASSES; c++) {
            census.preset(c, Integer.MAX_VALUE);
            want += isFinite(c) ? Checks.GREATEST_TALLY : 0;
            Checks.due("tallies 0 to " + c + " full: finite()", census.finite(), want);
        }
        Checks.due("all full: finite()", census.finite(), 196602);
        census.classify(0);
        Checks.due("all full and one zero more: finite()", census.finite(), 196602);
    }

    private static void sumFollowsClassifyAndPreset() {
        FpClassify census = new FpClassify();
        int[] finitePatterns = {0xBF800000, 0x80000001, 0x80000000, 0, 1, 0x3F800000};
        int[] otherPatterns = {0xFF800000, 0x7F800000, 0x7F800001, 0xFF800001, 0x7FC00000, -1};
        int want = 0;
        for (int bits : finitePatterns) {
            census.classify(bits);
            want++;
            Checks.due("finite() after a finite pattern", census.finite(), want);
        }
        for (int bits : otherPatterns) {
            census.classify(bits);
            Checks.due("finite() after another pattern", census.finite(), want);
        }
        census.preset(3, 41);
        Checks.due("finite() after preset(3, 41)", census.finite(), want + 40);
        census.preset(3, -5);
        Checks.due("finite() after preset(3, -5)", census.finite(), want - 1);
        census.preset(10, 9);
        Checks.due("finite() after preset(10, 9)", census.finite(), want - 1);
    }

    private static void summingChangesNothing() {
        FpClassify census = Checks.distinctCensus();
        int first = census.finite();
        for (int time = 0; time < 1000; time++) {
            Checks.due("finite() again", census.finite(), first);
        }
        Checks.talliesDue("summed often", census, Checks.distinct());
    }
}
