/** The calls that README.md shows, in their order on one census, with the answers it tells. */
public final class ReadmeExampleTest {
    public static void main(String[] args) {
        Checks.sentence("README.md, Use", ReadmeExampleTest::theShownCalls);
        Checks.end();
    }

    private static void theShownCalls() {
        FpClassify census = new FpClassify();
        Checks.due("classify(0x3F800000)", census.classify(0x3F800000), 64);
        Checks.due("classify(0x7FC00000)", census.classify(0x7FC00000), 512);
        Checks.due("preset(4, 100)", census.preset(4, 100), 100);
        Checks.due("preset(4, 40000)", census.preset(4, 40000), 32767);
        Checks.due("preset(10, 1)", census.preset(10, 1), -1);
        Checks.due("tally(6)", census.tally(6), 1);
        Checks.due("tally(-1)", census.tally(-1), -1);
        Checks.due("finite()", census.finite(), 32768);
    }
}
