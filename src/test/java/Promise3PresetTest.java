/** Promise 3: preset stores the clamped value in one tally and answers it, or answers -1 and changes nothing. */
public final class Promise3PresetTest {
    /** Each value with what it is clamped to. */
    private static final int[][] CLAMPED = {
        {0, 0}, {1, 1}, {100, 100}, {127, 127}, {128, 128}, {255, 255}, {256, 256},
        {32766, 32766}, {32767, 32767}, {32768, 32767}, {32769, 32767},
        {65535, 32767}, {65536, 32767}, {65636, 32767}, {Integer.MAX_VALUE, 32767},
        {-1, 0}, {-2, 0}, {-32767, 0}, {-32768, 0}, {-32769, 0}, {-65436, 0},
        {Integer.MIN_VALUE, 0}, {Integer.MIN_VALUE + 1, 0}
    };

    public static void main(String[] args) {
        valuesAreClampedAndStored();
        laterValueReplacesEarlier();
        classifyGoesOnFromThePreset();
        wrongClassChangesNothing();
        Checks.end();
    }

    private static void valuesAreClampedAndStored() {
        for (int c = 0; c < Checks.CLASSES; c++) {
            for (int[] row : CLAMPED) {
                FpClassify census = Checks.distinctCensus();
                int[] want = Checks.distinct();
                want[c] = row[1];
                String call = "preset(" + c + ", " + row[0] + ")";
                Checks.due(call, census.preset(c, row[0]), row[1]);
                Checks.talliesDue("after " + call, census, want);
            }
        }
    }

    private static void laterValueReplacesEarlier() {
        int[] values = {5, 9, 9, 3, 0, 32767, 32767, 1, 32767, 0, 0};
        for (int c = 0; c < Checks.CLASSES; c++) {
            FpClassify census = new FpClassify();
            for (int v : values) {
                Checks.due("preset(" + c + ", " + v + ") again", census.preset(c, v), v);
                Checks.due("tally(" + c + ") after preset to " + v, census.tally(c), v);
            }
        }
    }

    private static void classifyGoesOnFromThePreset() {
        FpClassify census = new FpClassify();
        census.classify(0);
        census.classify(0);
        Checks.due("preset(4, 100) after two zeros", census.preset(4, 100), 100);
        census.classify(0);
        Checks.due("tally(4) after one zero more", census.tally(4), 101);
        Checks.due("preset(4, -1)", census.preset(4, -1), 0);
        census.classify(0);
        Checks.due("tally(4) after a zero from 0", census.tally(4), 1);
    }

    private static void wrongClassChangesNothing() {
        for (int c : Checks.NO_CLASSES) {
            for (int[] row : CLAMPED) {
                FpClassify census = Checks.distinctCensus();
                String call = "preset(" + c + ", " + row[0] + ")";
                Checks.due(call, census.preset(c, row[0]), -1);
                Checks.talliesDue("after " + call, census, Checks.distinct());
            }
        }
    }
}
