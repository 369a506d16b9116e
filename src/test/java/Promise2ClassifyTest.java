/** Promise 2: classify decides the class, counts it up to 32767, and answers 1 << k. */
public final class Promise2ClassifyTest {
    private static final int SIGN = 0x80000000;
    private static final int[] SIGNS = {0, SIGN};

    /** The least and the greatest pattern of each stretch of patterns, and the neighbours of the named ones. */
    private static final int[] EDGES = {
        0, 1, 2, 0x003FFFFF, 0x00400000, 0x007FFFFE, 0x007FFFFF, 0x00800000, 0x00800001, 0x3F7FFFFF, 0x3F800000,
        0x7F000000, 0x7F7FFFFE, 0x7F7FFFFF, 0x7F800000, 0x7F800001, 0x7FBFFFFF, 0x7FC00000, 0x7FC00001,
        0x7FFFFFFE, 0x7FFFFFFF
    };

    public static void main(String[] args) {
        Checks.sentence("`int classify(int bits)` takes any `int` as a binary32 bit pattern, decides its class k, "
            + "records it, and answers `1 << k`.", Promise2ClassifyTest::everySignAndExponent);
        Checks.sentence("`e` is the value of bits 23 to 30 (an unsigned value from 0 to 255)",
            Promise2ClassifyTest::everyExponentIsUnsigned);
        Checks.sentence("`f` is the value of bits 0 to 22 (an unsigned value from 0 to 8388607)",
            Promise2ClassifyTest::everyBitOfTheFractionCounts);
        Checks.sentence("`neg` means bit 31 is set, that is, `bits` is a negative `int`.",
            Promise2ClassifyTest::theSignMirrorsTheClass);
        Checks.sentence("`e == 255` and `f == 0`: k is 0 if `neg`, else 7 (infinity)",
            Promise2ClassifyTest::infinities);
        Checks.sentence("`e == 255` and `f != 0`: k is 9 if bit 22 is set (quiet NaN), else 8 (signalling NaN), "
            + "whatever the sign", Promise2ClassifyTest::notNumbers);
        Checks.sentence("`e == 0` and `f == 0`: k is 3 if `neg`, else 4 (zero)", Promise2ClassifyTest::zeros);
        Checks.sentence("`e == 0` and `f != 0`: k is 2 if `neg`, else 5 (subnormal)",
            Promise2ClassifyTest::subnormals);
        Checks.sentence("otherwise (`e` from 1 to 254): k is 1 if `neg`, else 6 (normal)",
            Promise2ClassifyTest::normals);
        Checks.sentence("Every `int` value, including `0`, `-1`, `Integer.MIN_VALUE` and `Integer.MAX_VALUE`, falls "
            + "into exactly one of these cases, so every call has a class.", Promise2ClassifyTest::namedInts);
        Checks.sentence("What changes: tally k grows by one", Promise2ClassifyTest::theTallyGrowsByOne);
        Checks.sentence("unless it already is 32767, in which case it stays 32767.",
            Promise2ClassifyTest::aFullTallyStays);
        Checks.sentence("No other tally changes.", Promise2ClassifyTest::noOtherTallyChanges);
        Checks.sentence("What is answered: `1 << k`, which is one of 1, 2, 4, 8, 16, 32, 64, 128, 256, 512.",
            Promise2ClassifyTest::theTenAnswers);
        Checks.sentence("The answer depends only on `bits`", Promise2ClassifyTest::theAnswerIsTheSameInEveryState);
        Checks.sentence("it is the same whether or not tally k was already at 32767.",
            Promise2ClassifyTest::theAnswerIsTheSameWhenFull);
        examples();
        Checks.sentence("`classify` never throws.", Promise2ClassifyTest::classifyDoesNotThrow);
        Checks.end();
    }

    private static String call(int bits) {
        return "classify(0x" + Integer.toHexString(bits) + ")";
    }

    /** On a fresh census, so that what is counted shows as well as what is answered. */
    private static void classDue(int bits, int k) {
        FpClassify census = new FpClassify();
        Checks.due(call(bits), census.classify(bits), 1L << k);
        int[] want = Checks.allAt(0);
        want[k] = 1;
        Checks.talliesDue("after " + call(bits), census, want);
    }

    private static void everySignAndExponent() {
        int[] fractions = {0, 1, 0x3FFFFF, 0x400000, 0x400001, 0x555555, 0x7FFFFF};
        for (int top = 0; top < 512; top++) {
            for (int fraction : fractions) {
                int bits = top << 23 | fraction;
                classDue(bits, ClassByOrder.of(bits));
            }
        }
    }

    private static void everyExponentIsUnsigned() {
        for (int e = 0; e <= 255; e++) {
            classDue(e << 23, e == 0 ? 4 : e == 255 ? 7 : 6);
            classDue(e << 23 | 1, e == 0 ? 5 : e == 255 ? 8 : 6);
        }
    }

    private static void everyBitOfTheFractionCounts() {
        for (int bit = 0; bit <= 22; bit++) {
            classDue(1 << bit, 5);
            classDue(0x7F800000 | 1 << bit, bit == 22 ? 9 : 8);
        }
        classDue(8388607, 5);
        classDue(8388608, 6);
        classDue(0x7F800000 | 8388607, 9);
    }

    private static void theSignMirrorsTheClass() {
        int[] magnitudes = {0, 1, 0x007FFFFF, 0x00800000, 0x3F800000, 0x7F7FFFFF, 0x7F800000};
        int[] positive = {4, 5, 5, 6, 6, 6, 7};
        int[] negative = {3, 2, 2, 1, 1, 1, 0};
        for (int i = 0; i < magnitudes.length; i++) {
            classDue(magnitudes[i], positive[i]);
            classDue(magnitudes[i] | SIGN, negative[i]);
            classDue(magnitudes[i] + Integer.MIN_VALUE, negative[i]);
        }
    }

    private static void infinities() {
        classDue(0x7F800000, 7);
        classDue(0xFF800000, 0);
    }

    private static void notNumbers() {
        for (int sign : SIGNS) {
            classDue(sign | 0x7F800001, 8);
            classDue(sign | 0x7FA00000, 8);
            classDue(sign | 0x7FBFFFFF, 8);
            classDue(sign | 0x7FC00000, 9);
            classDue(sign | 0x7FC00001, 9);
            classDue(sign | 0x7FFFFFFF, 9);
        }
    }

    private static void zeros() {
        classDue(0, 4);
        classDue(SIGN, 3);
    }

    private static void subnormals() {
        int[] fractions = {1, 2, 0x3FFFFF, 0x400000, 0x7FFFFE, 0x7FFFFF};
        for (int f : fractions) {
            classDue(f, 5);
            classDue(SIGN | f, 2);
        }
    }

    private static void normals() {
        int[] fractions = {0, 1, 0x400000, 0x7FFFFF};
        for (int e = 1; e <= 254; e++) {
            for (int f : fractions) {
                classDue(e << 23 | f, 6);
                classDue(SIGN | e << 23 | f, 1);
            }
        }
    }

    /** The named values; EveryIntTest goes through all the others too. */
    private static void namedInts() {
        classDue(0, 4);
        classDue(-1, 9);
        classDue(Integer.MIN_VALUE, 3);
        classDue(Integer.MAX_VALUE, 9);
        classDue(Integer.MIN_VALUE + 1, 2);
        classDue(Integer.MAX_VALUE - 1, 9);
    }

    private static void theTallyGrowsByOne() {
        for (int k = 0; k < Checks.CLASSES; k++) {
            FpClassify census = new FpClassify();
            for (int time = 1; time <= Checks.GREATEST_TALLY; time++) {
                census.classify(Checks.patternOf(k));
                Checks.due("class " + k + " from 0, time " + time + ": tally", census.tally(k), time);
            }
        }
    }

    /** Past the point where a count of 16 bits that went on would have come round to 0 again. */
    private static void aFullTallyStays() {
        for (int k = 0; k < Checks.CLASSES; k++) {
            FpClassify census = new FpClassify();
            census.preset(k, 32766);
            for (int time = 1; time <= 70000; time++) {
                census.classify(Checks.patternOf(k));
                Checks.due("class " + k + " from 32766, time " + time + ": tally", census.tally(k), 32767);
            }
        }
    }

    private static void noOtherTallyChanges() {
        for (int k = 0; k < Checks.CLASSES; k++) {
            for (int[] state : Checks.states()) {
                FpClassify census = Checks.censusOf(state);
                int[] want = state.clone();
                for (int time = 1; time <= 3; time++) {
                    census.classify(Checks.patternOf(k));
                    want[k] = Math.min(want[k] + 1, Checks.GREATEST_TALLY);
                    Checks.talliesDue("class " + k + " from " + state[k] + ", time " + time, census, want);
                }
            }
        }
    }

    private static void theTenAnswers() {
        int[] answers = {1, 2, 4, 8, 16, 32, 64, 128, 256, 512};
        FpClassify census = new FpClassify();
        for (int k = 0; k < Checks.CLASSES; k++) {
            Checks.due(call(Checks.patternOf(k)), census.classify(Checks.patternOf(k)), answers[k]);
        }
    }

    private static void theAnswerIsTheSameInEveryState() {
        for (int[] state : Checks.states()) {
            FpClassify census = Checks.censusOf(state);
            for (int time = 1; time <= 3; time++) {
                for (int edge : EDGES) {
                    for (int sign : SIGNS) {
                        int bits = sign | edge;
                        Checks.due(call(bits) + " again", census.classify(bits), 1L << ClassByOrder.of(bits));
                    }
                }
            }
        }
    }

    private static void theAnswerIsTheSameWhenFull() {
        for (int k = 0; k < Checks.CLASSES; k++) {
            FpClassify census = new FpClassify();
            int bits = Checks.patternOf(k);
            census.preset(k, 32766);
            Checks.due(call(bits) + " that fills its tally", census.classify(bits), 1L << k);
            Checks.due(call(bits) + " on its full tally", census.classify(bits), 1L << k);
            Checks.due(call(bits) + " on its full tally again", census.classify(bits), 1L << k);
            census.preset(k, 0);
            Checks.due(call(bits) + " on its emptied tally", census.classify(bits), 1L << k);
        }
    }

    /** "Some examples (written as hexadecimal `int` values)", with the document's own numbers. */
    private static void examples() {
        Checks.sentence("`0x00000000` is class 4, answers 16", () -> exampleDue(0x00000000, 4, 16));
        Checks.sentence("`0x80000000` is class 3, answers 8", () -> exampleDue(0x80000000, 3, 8));
        Checks.sentence("`0x00000001` is class 5, answers 32", () -> exampleDue(0x00000001, 5, 32));
        Checks.sentence("`0x80000001` is class 2, answers 4", () -> exampleDue(0x80000001, 2, 4));
        Checks.sentence("`0x3F800000` is class 6, answers 64", () -> exampleDue(0x3F800000, 6, 64));
        Checks.sentence("`0xBF800000` is class 1, answers 2", () -> exampleDue(0xBF800000, 1, 2));
        Checks.sentence("`0x7F7FFFFF` is class 6, answers 64", () -> exampleDue(0x7F7FFFFF, 6, 64));
        Checks.sentence("`0x7F800000` is class 7, answers 128", () -> exampleDue(0x7F800000, 7, 128));
        Checks.sentence("`0xFF800000` is class 0, answers 1", () -> exampleDue(0xFF800000, 0, 1));
        Checks.sentence("`0x7F800001` and `0xFF800001` are class 8, answer 256", () -> {
            exampleDue(0x7F800001, 8, 256);
            exampleDue(0xFF800001, 8, 256);
        });
        Checks.sentence("`0x7FC00000`, `0xFFC00000`, `0x7FFFFFFF` and `0xFFFFFFFF` are class 9, answer 512", () -> {
            exampleDue(0x7FC00000, 9, 512);
            exampleDue(0xFFC00000, 9, 512);
            exampleDue(0x7FFFFFFF, 9, 512);
            exampleDue(0xFFFFFFFF, 9, 512);
        });
    }

    private static void exampleDue(int bits, int k, int answer) {
        FpClassify census = new FpClassify();
        Checks.due(call(bits), census.classify(bits), answer);
        Checks.due("tally(" + k + ") after " + call(bits), census.tally(k), 1);
    }

    private static void classifyDoesNotThrow() {
        for (int[] state : Checks.states()) {
            FpClassify census = Checks.censusOf(state);
            for (int edge : EDGES) {
                for (int sign : SIGNS) {
                    int bits = sign | edge;
                    Checks.doesNotThrow(call(bits), () -> census.classify(bits));
                }
            }
        }
    }
}
