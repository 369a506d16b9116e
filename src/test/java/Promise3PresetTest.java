/** Promise 3: preset stores the clamped value in one tally and answers it, or answers -1 and changes nothing. */
public final class Promise3PresetTest {
    public static void main(String[] args) {
        Checks.sentence("`int preset(int c, int v)` sets tally `c` directly.", Promise3PresetTest::eachTallyIsSet);
        Checks.sentence("If `c < 0` [..] answers -1 and changes nothing, whatever `v` is.",
            Promise3PresetTest::classBelowTheFirstIsRefused);
        Checks.sentence("If [..] `c > 9`: answers -1 and changes nothing, whatever `v` is.",
            Promise3PresetTest::classAboveTheLastIsRefused);
        Checks.sentence("This includes `c` equal to `Integer.MIN_VALUE` or `Integer.MAX_VALUE`.",
            Promise3PresetTest::extremeClassesAreRefused);
        Checks.sentence("Otherwise (`c` from 0 to 9)", Promise3PresetTest::theFirstAndTheLastClassAreTaken);
        Checks.sentence("any value below 0 becomes 0", Promise3PresetTest::tooSmallBecomesZero);
        Checks.sentence("any value above 32767 becomes 32767", Promise3PresetTest::tooLargeBecomesTheGreatest);
        Checks.sentence("values from 0 to 32767 are kept as they are.", Promise3PresetTest::fittingValuesAreKept);
        Checks.sentence("The clamped value is stored as tally `c`, and the stored value is answered.",
            Promise3PresetTest::theStoredValueIsAnswered);
        Checks.sentence("For example, `v` equal to `Integer.MIN_VALUE` or -1 stores and answers 0; `v` equal to 32768 "
            + "or `Integer.MAX_VALUE` stores and answers 32767; `v` equal to 100 stores and answers 100.",
            Promise3PresetTest::examples);
        Checks.sentence("What does not change: no tally other than tally `c` changes.",
            Promise3PresetTest::noOtherTallyChanges);
        Checks.sentence("The stored value replaces the earlier value of tally `c`, whatever it was",
            Promise3PresetTest::everyEarlierValueIsReplaced);
        Checks.sentence("it may be smaller or larger than before, or the same.",
            Promise3PresetTest::smallerLargerOrTheSame);
        Checks.sentence("The answer is therefore always either -1 (for `c` out of range) or a value from 0 to 32767 "
            + "(for `c` in range).", Promise3PresetTest::theAnswerIsMinusOneOrInRange);
        Checks.sentence("`preset` never throws.", Promise3PresetTest::presetDoesNotThrow);
        Checks.end();
    }

    private static String call(int c, int v) {
        return "preset(" + c + ", " + v + ")";
    }

    private static void storedDue(int c, int v, int want) {
        FpClassify census = Checks.distinctCensus();
        Checks.due(call(c, v), census.preset(c, v), want);
        Checks.due("tally(" + c + ") after " + call(c, v), census.tally(c), want);
    }

    private static void refusalDue(int c) {
        for (int[] state : Checks.states()) {
            FpClassify census = Checks.censusOf(state);
            int sum = census.finite();
            for (int v : Checks.allValues()) {
                Checks.due(call(c, v), census.preset(c, v), -1);
                Checks.talliesDue("after " + call(c, v), census, state);
            }
            Checks.due("finite() after refused calls", census.finite(), sum);
        }
    }

    private static void eachTallyIsSet() {
        FpClassify census = new FpClassify();
        int[] want = Checks.allAt(0);
        for (int c = 0; c < Checks.CLASSES; c++) {
            want[c] = 500 + c;
            Checks.due(call(c, want[c]), census.preset(c, want[c]), want[c]);
            Checks.talliesDue("after " + call(c, want[c]), census, want);
        }
    }

    private static void classBelowTheFirstIsRefused() {
        for (int c : Checks.NO_CLASSES) {
            if (c < 0) {
                refusalDue(c);
            }
        }
    }

    private static void classAboveTheLastIsRefused() {
        for (int c : Checks.NO_CLASSES) {
            if (c > 9) {
                refusalDue(c);
            }
        }
    }

    private static void extremeClassesAreRefused() {
        refusalDue(Integer.MIN_VALUE);
        refusalDue(Integer.MAX_VALUE);
    }

    private static void theFirstAndTheLastClassAreTaken() {
        storedDue(0, 321, 321);
        storedDue(9, 321, 321);
        refusalDue(-1);
        refusalDue(10);
    }

    private static void tooSmallBecomesZero() {
        for (int c = 0; c < Checks.CLASSES; c++) {
            for (int v : Checks.TOO_SMALL) {
                storedDue(c, v, 0);
            }
        }
    }

    private static void tooLargeBecomesTheGreatest() {
        for (int c = 0; c < Checks.CLASSES; c++) {
            for (int v : Checks.TOO_LARGE) {
                storedDue(c, v, 32767);
            }
        }
    }

    private static void fittingValuesAreKept() {
        for (int c = 0; c < Checks.CLASSES; c++) {
            for (int v = 0; v <= Checks.GREATEST_TALLY; v++) {
                storedDue(c, v, v);
            }
        }
    }

    /** Read back through tally, finite and the next classify, each of which could see another value. */
    private static void theStoredValueIsAnswered() {
        for (int c = 0; c < Checks.CLASSES; c++) {
            for (int v : Checks.allValues()) {
                FpClassify census = new FpClassify();
                int stored = census.preset(c, v);
                Checks.due("tally(" + c + ") after " + call(c, v), census.tally(c), stored);
                Checks.due("finite() after " + call(c, v), census.finite(), Checks.isFinite(c) ? stored : 0);
                census.classify(Checks.patternOf(c));
                Checks.due("tally(" + c + ") after " + call(c, v) + " and one more", census.tally(c),
                    Math.min(stored + 1, Checks.GREATEST_TALLY));
            }
        }
    }

    private static void examples() {
        for (int c = 0; c < Checks.CLASSES; c++) {
            storedDue(c, Integer.MIN_VALUE, 0);
            storedDue(c, -1, 0);
            storedDue(c, 32768, 32767);
            storedDue(c, Integer.MAX_VALUE, 32767);
            storedDue(c, 100, 100);
        }
    }

    private static void noOtherTallyChanges() {
        for (int c = 0; c < Checks.CLASSES; c++) {
            for (int v : Checks.allValues()) {
                for (int[] state : Checks.states()) {
                    FpClassify census = Checks.censusOf(state);
                    int[] want = state.clone();
                    want[c] = census.preset(c, v);
                    Checks.talliesDue("after " + call(c, v), census, want);
                }
            }
        }
    }

    private static void everyEarlierValueIsReplaced() {
        for (int c = 0; c < Checks.CLASSES; c++) {
            for (int[] state : Checks.states()) {
                FpClassify census = Checks.censusOf(state);
                census.classify(Checks.patternOf(c));
                census.classify(Checks.patternOf(c));
                Checks.due(call(c, 0) + " after counting", census.preset(c, 0), 0);
                Checks.due("tally(" + c + ") emptied", census.tally(c), 0);
                census.classify(Checks.patternOf(c));
                Checks.due("tally(" + c + ") counts from 0 again", census.tally(c), 1);
                Checks.due(call(c, 40000) + " after counting", census.preset(c, 40000), 32767);
                Checks.due("tally(" + c + ") filled", census.tally(c), 32767);
            }
        }
    }

    private static void smallerLargerOrTheSame() {
        int[] values = {5, 9, 9, 3, 0, 32767, 32767, 1, 32767, 0, 0};
        for (int c = 0; c < Checks.CLASSES; c++) {
            FpClassify census = new FpClassify();
            for (int v : values) {
                Checks.due(call(c, v) + " again", census.preset(c, v), v);
                Checks.due("tally(" + c + ") after " + call(c, v), census.tally(c), v);
            }
        }
    }

    private static void theAnswerIsMinusOneOrInRange() {
        FpClassify census = new FpClassify();
        for (int v : Checks.allValues()) {
            for (int c = 0; c < Checks.CLASSES; c++) {
                Checks.inRange("the answer of " + call(c, v), census.preset(c, v));
            }
            for (int c : Checks.NO_CLASSES) {
                Checks.due(call(c, v), census.preset(c, v), -1);
            }
        }
    }

    private static void presetDoesNotThrow() {
        for (int[] state : Checks.states()) {
            FpClassify census = Checks.censusOf(state);
            for (int v : Checks.allValues()) {
                for (int c = 0; c < Checks.CLASSES; c++) {
                    int taken = c;
                    Checks.doesNotThrow(call(c, v), () -> census.preset(taken, v));
                }
                for (int c : Checks.NO_CLASSES) {
                    Checks.doesNotThrow(call(c, v), () -> census.preset(c, v));
                }
            }
        }
    }
}
