/** Promise 1: a fresh census is all zeros, belongs to itself alone, and stays within 0 to 32767. */
public final class Promise1FreshCensusTest {
    private static final int[] ZEROS = new int[Checks.CLASSES];

    public static void main(String[] args) {
        freshTalliesAreZero();
        freshFiniteIsZeroWhenAskedFirst();
        instancesAreApart();
        aLaterInstanceIsFreshToo();
        talliesStayInRange();
        Checks.end();
    }

    private static void freshTalliesAreZero() {
        FpClassify census = new FpClassify();
        Checks.talliesDue("fresh", census, ZEROS);
        Checks.due("fresh: finite()", census.finite(), 0);
    }

    private static void freshFiniteIsZeroWhenAskedFirst() {
        Checks.due("fresh: finite() first", new FpClassify().finite(), 0);
    }

    private static void instancesAreApart() {
        FpClassify first = new FpClassify();
        FpClassify second = new FpClassify();
        for (int c = 0; c < Checks.CLASSES; c++) {
            first.preset(c, 7 + c);
        }
        Checks.talliesDue("presets on another", second, ZEROS);
        first.classify(0);
        first.classify(-1);
        Checks.talliesDue("classify on another", second, ZEROS);
        Checks.due("changes on another: finite()", second.finite(), 0);
        second.classify(0x3F800000);
        second.preset(0, 500);
        Checks.talliesDue("first, after changes on the second", first, 7, 8, 9, 10, 12, 12, 13, 14, 15, 17);
        Checks.talliesDue("second, after its own changes", second, 500, 0, 0, 0, 0, 0, 1, 0, 0, 0);
    }

    private static void aLaterInstanceIsFreshToo() {
        FpClassify used = Checks.distinctCensus();
        FpClassify later = new FpClassify();
        Checks.talliesDue("made after another was used", later, ZEROS);
        Checks.due("made after another was used: finite()", later.finite(), 0);
        Checks.talliesDue("used, after another was made", used, Checks.distinct());
    }

    private static void talliesStayInRange() {
        int[] values = {Integer.MIN_VALUE, -32769, -1, 0, 32766, 32767, 32768, 65535, 65536, Integer.MAX_VALUE};
        int[] patterns = {0xFF800000, 0x80800000, 0x80000001, 0x80000000, 0, 1, 0x00800000, 0x7F800000, 0x7F800001, -1};
        FpClassify census = new FpClassify();
        for (int v : values) {
            for (int c = 0; c < Checks.CLASSES; c++) {
                census.preset(c, v);
                checkRange("preset(" + c + ", " + v + ")", census.tally(c));
                census.classify(patterns[c]);
                census.classify(patterns[c]);
                checkRange("preset(" + c + ", " + v + ") and two classifies", census.tally(c));
            }
        }
    }

    private static void checkRange(String when, int tally) {
        Checks.holds("after " + when + " the tally " + tally + " is in 0 to 32767",
            tally >= 0 && tally <= Checks.GREATEST_TALLY);
    }
}
