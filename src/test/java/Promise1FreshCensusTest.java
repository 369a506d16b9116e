/** Promise 1: a fresh census is all zeros, belongs to itself alone, and stays within 0 to 32767. */
public final class Promise1FreshCensusTest {
    public static void main(String[] args) {
        Checks.sentence("`new FpClassify()` creates a census whose ten tallies, numbered 0 to 9, are all 0.",
            Promise1FreshCensusTest::tenTalliesAndNoMore);
        Checks.sentence("Right after construction, `tally(c)` answers 0 for every `c` from 0 to 9",
            Promise1FreshCensusTest::eachTallyIsZeroWhenAskedFirst);
        Checks.sentence("Right after construction, [..] `finite()` answers 0.",
            Promise1FreshCensusTest::finiteIsZeroWhenAskedFirst);
        Checks.sentence("The constructor never throws.", Promise1FreshCensusTest::constructorDoesNotThrow);
        Checks.sentence("Each instance has its own ten tallies", Promise1FreshCensusTest::eachInstanceHasItsOwn);
        Checks.sentence("operations on one instance do not change the tallies of any other instance.",
            Promise1FreshCensusTest::noOperationReachesAnother);
        Checks.sentence("At all times afterwards, every tally is a value from 0 to 32767",
            Promise1FreshCensusTest::everyTallyStaysInRange);
        Checks.sentence("no operation ever makes a tally negative", Promise1FreshCensusTest::noTallyTurnsNegative);
        Checks.sentence("no operation ever makes a tally [..] larger than 32767.",
            Promise1FreshCensusTest::noTallyGoesAboveTheGreatest);
        Checks.end();
    }

    private static void tenTalliesAndNoMore() {
        FpClassify census = new FpClassify();
        Checks.talliesDue("fresh", census, Checks.allAt(0));
        Checks.due("fresh: tally(-1)", census.tally(-1), -1);
        Checks.due("fresh: tally(10)", census.tally(10), -1);
    }

    private static void eachTallyIsZeroWhenAskedFirst() {
        for (int c = 0; c < Checks.CLASSES; c++) {
            Checks.due("new FpClassify().tally(" + c + ")", new FpClassify().tally(c), 0);
        }
    }

    private static void finiteIsZeroWhenAskedFirst() {
        Checks.due("new FpClassify().finite()", new FpClassify().finite(), 0);
    }

    private static void constructorDoesNotThrow() {
        FpClassify[] made = new FpClassify[1000];
        for (int i = 0; i < made.length; i++) {
            int place = i;
            Checks.doesNotThrow("new FpClassify(), time " + i, () -> made[place] = new FpClassify());
        }
        Checks.talliesDue("the last of 1000", made[made.length - 1], Checks.allAt(0));
    }

    private static void eachInstanceHasItsOwn() {
        FpClassify first = Checks.distinctCensus();
        FpClassify second = new FpClassify();
        Checks.talliesDue("made after another was used", second, Checks.allAt(0));
        Checks.due("made after another was used: finite()", second.finite(), 0);
        for (int c = 0; c < Checks.CLASSES; c++) {
            second.preset(c, 7 + c);
        }
        Checks.talliesDue("first", first, Checks.distinct());
        Checks.talliesDue("second", second, 7, 8, 9, 10, 11, 12, 13, 14, 15, 16);
    }

    private static void noOperationReachesAnother() {
        FpClassify before = Checks.distinctCensus();
        FpClassify used = new FpClassify();
        FpClassify after = Checks.distinctCensus();
        for (int c = 0; c < Checks.CLASSES; c++) {
            used.classify(Checks.patternOf(c));
            othersAreAsTheyWere("classify of class " + c, before, after);
            used.preset(c, 77);
            othersAreAsTheyWere("preset(" + c + ", 77)", before, after);
            used.preset(c, Integer.MAX_VALUE);
            used.classify(Checks.patternOf(c));
            othersAreAsTheyWere("classify of the full class " + c, before, after);
            used.tally(c);
            othersAreAsTheyWere("tally(" + c + ")", before, after);
        }
        used.finite();
        used.preset(10, 5);
        used.tally(-1);
        othersAreAsTheyWere("finite() and refused calls", before, after);
    }

    private static void othersAreAsTheyWere(String call, FpClassify before, FpClassify after) {
        Checks.talliesDue(call + " on a later one", before, Checks.distinct());
        Checks.talliesDue(call + " on an earlier one", after, Checks.distinct());
    }

    private static void everyTallyStaysInRange() {
        FpClassify census = new FpClassify();
        for (int v : Checks.allValues()) {
            for (int c = 0; c < Checks.CLASSES; c++) {
                census.preset(c, v);
                Checks.inRange("tally(" + c + ") after preset to " + v, census.tally(c));
                census.classify(Checks.patternOf(c));
                census.classify(Checks.patternOf(c));
                Checks.inRange("tally(" + c + ") after preset to " + v + " and two more", census.tally(c));
            }
        }
    }

    /** The two ways down: a value too small, and the wrap of a short that counts past its greatest. */
    private static void noTallyTurnsNegative() {
        for (int c = 0; c < Checks.CLASSES; c++) {
            FpClassify census = new FpClassify();
            for (int v : Checks.TOO_SMALL) {
                census.preset(c, v);
                Checks.holds("tally(" + c + ") >= 0 after preset to " + v, census.tally(c) >= 0);
            }
            census.preset(c, 32767);
            census.classify(Checks.patternOf(c));
            Checks.holds("tally(" + c + ") >= 0 after one more than 32767", census.tally(c) >= 0);
        }
    }

    /** Through finite() too, since a short could not show a tally that is too large. */
    private static void noTallyGoesAboveTheGreatest() {
        for (int c = 0; c < Checks.CLASSES; c++) {
            int greatestSum = Checks.isFinite(c) ? Checks.GREATEST_TALLY : 0;
            FpClassify census = new FpClassify();
            for (int v : Checks.TOO_LARGE) {
                Checks.due("preset(" + c + ", " + v + ")", census.preset(c, v), 32767);
                Checks.due("finite() after preset(" + c + ", " + v + ")", census.finite(), greatestSum);
                census.classify(Checks.patternOf(c));
                Checks.due("tally(" + c + ") after one more", census.tally(c), 32767);
                Checks.due("finite() after one more", census.finite(), greatestSum);
            }
        }
    }
}
