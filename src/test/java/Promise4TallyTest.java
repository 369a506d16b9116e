/** Promise 4: tally answers the current value or -1, and changes nothing. */
public final class Promise4TallyTest {
    public static void main(String[] args) {
        Checks.sentence("`short tally(int c)` answers the current value of tally `c`",
            Promise4TallyTest::theCurrentValueIsAnswered);
        Checks.sentence("or -1 if `c < 0`", Promise4TallyTest::classBelowTheFirstAnswersMinusOne);
        Checks.sentence("or -1 if [..] `c > 9`.", Promise4TallyTest::classAboveTheLastAnswersMinusOne);
        Checks.sentence("For `c` from 0 to 9, the answer is the current tally, a value from 0 to 32767, which fits a "
            + "`short` exactly.", Promise4TallyTest::everyValueFitsExactly);
        Checks.sentence("For any other `c`, including `Integer.MIN_VALUE` and `Integer.MAX_VALUE`, the answer is -1.",
            Promise4TallyTest::extremeClassesAnswerMinusOne);
        Checks.sentence("What changes: nothing.", Promise4TallyTest::oneReadingChangesNothing);
        Checks.sentence("Calling `tally` any number of times leaves all ten tallies as they were.",
            Promise4TallyTest::manyReadingsChangeNothing);
        Checks.sentence("`tally` never throws.", Promise4TallyTest::tallyDoesNotThrow);
        Checks.end();
    }

    private static void theCurrentValueIsAnswered() {
        FpClassify census = Checks.distinctCensus();
        int[] want = Checks.distinct();
        for (int c = 0; c < Checks.CLASSES; c++) {
            census.classify(Checks.patternOf(c));
            Checks.due("tally(" + c + ") after one more", census.tally(c), want[c] + 1);
            census.preset(c, 20 + c);
            Checks.due("tally(" + c + ") after a preset", census.tally(c), 20 + c);
        }
        Checks.talliesDue("all preset anew", census, 20, 21, 22, 23, 24, 25, 26, 27, 28, 29);
    }

    private static void minusOneDue(int c) {
        for (int[] state : Checks.states()) {
            Checks.due("tally(" + c + ")", Checks.censusOf(state).tally(c), -1);
        }
    }

    private static void classBelowTheFirstAnswersMinusOne() {
        for (int c : Checks.NO_CLASSES) {
            if (c < 0) {
                minusOneDue(c);
            }
        }
        Checks.due("tally(0), the first", Checks.distinctCensus().tally(0), Checks.distinct()[0]);
    }

    private static void classAboveTheLastAnswersMinusOne() {
        for (int c : Checks.NO_CLASSES) {
            if (c > 9) {
                minusOneDue(c);
            }
        }
        Checks.due("tally(9), the last", Checks.distinctCensus().tally(9), Checks.distinct()[9]);
    }

    private static void everyValueFitsExactly() {
        for (int c = 0; c < Checks.CLASSES; c++) {
            FpClassify census = new FpClassify();
            for (int v = 0; v <= Checks.GREATEST_TALLY; v++) {
                census.preset(c, v);
                short answer = census.tally(c);
                Checks.due("tally(" + c + ") at " + v, answer, v);
            }
        }
    }

    private static void extremeClassesAnswerMinusOne() {
        minusOneDue(Integer.MIN_VALUE);
        minusOneDue(Integer.MAX_VALUE);
    }

    /** One reading alone, so that a change it makes can't be undone by the next one. */
    private static void oneReadingChangesNothing() {
        for (int[] state : Checks.states()) {
            for (int c = 0; c < Checks.CLASSES; c++) {
                FpClassify census = Checks.censusOf(state);
                census.tally(c);
                Checks.talliesDue("after tally(" + c + ")", census, state);
            }
            for (int c : Checks.NO_CLASSES) {
                FpClassify census = Checks.censusOf(state);
                census.tally(c);
                Checks.talliesDue("after tally(" + c + ")", census, state);
            }
        }
    }

    private static void manyReadingsChangeNothing() {
        FpClassify census = Checks.distinctCensus();
        int sum = census.finite();
        for (int time = 0; time < 70000; time++) {
            for (int c = -1; c <= Checks.CLASSES; c++) {
                census.tally(c);
            }
        }
        Checks.talliesDue("read often", census, Checks.distinct());
        Checks.due("finite() after many readings", census.finite(), sum);
    }

    private static void tallyDoesNotThrow() {
        for (int[] state : Checks.states()) {
            FpClassify census = Checks.censusOf(state);
            for (int c = 0; c < Checks.CLASSES; c++) {
                int taken = c;
                Checks.doesNotThrow("tally(" + c + ")", () -> census.tally(taken));
            }
            for (int c : Checks.NO_CLASSES) {
                Checks.doesNotThrow("tally(" + c + ")", () -> census.tally(c));
            }
        }
    }
}
