/** Promise 4: tally answers the current value or -1, and changes nothing. */
public final class Promise4TallyTest {
    public static void main(String[] args) {
        everyTallyAnswersItsOwnValue();
        smallestAndGreatestValue();
        wrongClassAnswersMinusOne();
        readingChangesNothing();
        Checks.end();
    }

    private static void everyTallyAnswersItsOwnValue() {
        FpClassify census = Checks.distinctCensus();
        Checks.talliesDue("distinct", census, Checks.distinct());
        census.classify(0x3F800000);
        Checks.due("tally(6) after one normal", census.tally(6), Checks.distinct()[6] + 1);
    }

    private static void smallestAndGreatestValue() {
        for (int c = 0; c < Checks.CLASSES; c++) {
            FpClassify census = new FpClassify();
            census.preset(c, Checks.GREATEST_TALLY);
            Checks.due("tally(" + c + ") at the greatest", census.tally(c), Checks.GREATEST_TALLY);
            census.preset(c, 0);
            Checks.due("tally(" + c + ") at the smallest", census.tally(c), 0);
        }
    }

    private static void wrongClassAnswersMinusOne() {
        FpClassify fresh = new FpClassify();
        FpClassify used = Checks.distinctCensus();
        for (int c : Checks.NO_CLASSES) {
            Checks.due("fresh: tally(" + c + ")", fresh.tally(c), -1);
            Checks.due("used: tally(" + c + ")", used.tally(c), -1);
        }
    }

    private static void readingChangesNothing() {
        FpClassify census = Checks.distinctCensus();
        for (int time = 0; time < 1000; time++) {
            Checks.talliesDue("read again", census, Checks.distinct());
            for (int c : Checks.NO_CLASSES) {
                census.tally(c);
            }
        }
        Checks.talliesDue("read often", census, Checks.distinct());
        Checks.due("finite() after many reads", census.finite(), 2001 + 3003 + 4007 + 5015 + 6031 + 7063);
    }
}
