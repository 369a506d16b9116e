/**
 * The sentences that speak of any int, over all 2^32 of them.
 * Each method has its own plain loop: one loop over a method handed in takes many times as long.
 */
public final class EveryIntTest {
    /** Patterns counted before the tallies are looked at; far from 32767, so that one counted twice shows. */
    private static final int BATCH = 16384;

    private static long wrong = 0;

    public static void main(String[] args) {
        Checks.sentence("Every `int` value, including `0`, `-1`, `Integer.MIN_VALUE` and `Integer.MAX_VALUE`, falls "
            + "into exactly one of these cases, so every call has a class.", EveryIntTest::everyPatternHasItsClass);
        Checks.sentence("If `c < 0` or `c > 9`: answers -1 and changes nothing, whatever `v` is.",
            EveryIntTest::presetRefusesEveryOtherClass);
        Checks.sentence("any value below 0 becomes 0 and any value above 32767 becomes 32767, while values from 0 to "
            + "32767 are kept as they are. The clamped value is stored as tally `c`, and the stored value is answered.",
            EveryIntTest::presetClampsEveryValue);
        Checks.sentence("For any other `c`, including `Integer.MIN_VALUE` and `Integer.MAX_VALUE`, the answer is -1.",
            EveryIntTest::tallyRefusesEveryOtherClass);
        Checks.end();
    }

    /** Prints the first wrong answer alone: a fault may touch thousands of millions of them. */
    private static void countWrong(String call, long argument, int got) {
        if (wrong == 0) {
            System.out.println(call + " with " + argument + " answered " + got + ", the first wrong answer");
        }
        wrong++;
    }

    private static void noneWrong(String call) {
        Checks.due("number of wrong answers of " + call, wrong, 0);
        wrong = 0;
    }

    private static void everyPatternHasItsClass() {
        int[] starts = {
            0x00000000, 0x00000001, 0x00800000, 0x7F800000, 0x7F800001, 0x7FC00000,
            0x80000000, 0x80000001, 0x80800000, 0xFF800000, 0xFF800001, 0xFFC00000
        };
        int[] classes = {4, 5, 6, 7, 8, 9, 3, 2, 1, 0, 8, 9};
        FpClassify census = new FpClassify();
        long patterns = 0;
        for (int i = 0; i < starts.length; i++) {
            long end = i + 1 < starts.length ? starts[i + 1] - 1 : -1;
            for (long from = starts[i]; from <= end; from += BATCH) {
                long to = Math.min(from + BATCH - 1, end);
                classifyBatch(census, from, to, classes[i]);
                patterns += to - from + 1;
            }
        }
        noneWrong("classify, and of tally after it");
        Checks.due("number of patterns classified", patterns, 1L << 32);
    }

    private static void classifyBatch(FpClassify census, long from, long to, int k) {
        for (int c = 0; c < Checks.CLASSES; c++) {
            census.preset(c, 0);
        }
        int due = 1 << k;
        for (long bits = from; bits <= to; bits++) {
            int got = census.classify((int) bits);
            if (got != due) {
                countWrong("classify", bits, got);
            }
        }
        for (int c = 0; c < Checks.CLASSES; c++) {
            int got = census.tally(c);
            if (got != (c == k ? to - from + 1 : 0)) {
                countWrong("tally, after classify from " + from + " to " + to + ",", c, got);
            }
        }
    }

    private static void presetRefusesEveryOtherClass() {
        FpClassify census = Checks.distinctCensus();
        presetClassStretch(census, Integer.MIN_VALUE, -1);
        presetClassStretch(census, 10, Integer.MAX_VALUE);
        noneWrong("preset(c, ~c)");
        Checks.talliesDue("every other class refused", census, Checks.distinct());
    }

    /** With another v for each c, since the answer is -1 whatever v is. */
    private static void presetClassStretch(FpClassify census, int from, int to) {
        for (long c = from; c <= to; c++) {
            int got = census.preset((int) c, (int) ~c);
            if (got != -1) {
                countWrong("preset(c, ~c)", c, got);
            }
        }
    }

    private static void presetClampsEveryValue() {
        FpClassify census = Checks.distinctCensus();
        presetValueStretch(census, Integer.MIN_VALUE, -1, 0);
        for (int v = 0; v <= 32767; v++) {
            presetValueStretch(census, v, v, v);
        }
        presetValueStretch(census, 32768, Integer.MAX_VALUE, 32767);
        noneWrong("preset(4, v), and of tally(4) after it");
        int[] want = Checks.distinct();
        want[4] = 32767;
        Checks.talliesDue("every value stored", census, want);
    }

    private static void presetValueStretch(FpClassify census, int from, int to, int due) {
        for (long v = from; v <= to; v++) {
            int got = census.preset(4, (int) v);
            if (got != due) {
                countWrong("preset(4, v)", v, got);
            }
            int stored = census.tally(4);
            if (stored != due) {
                countWrong("tally(4) after preset(4, v)", v, stored);
            }
        }
    }

    private static void tallyRefusesEveryOtherClass() {
        FpClassify census = Checks.distinctCensus();
        tallyStretch(census, Integer.MIN_VALUE, -1);
        tallyStretch(census, 10, Integer.MAX_VALUE);
        noneWrong("tally(c)");
        Checks.talliesDue("every other class read", census, Checks.distinct());
    }

    private static void tallyStretch(FpClassify census, int from, int to) {
        for (long c = from; c <= to; c++) {
            int got = census.tally((int) c);
            if (got != -1) {
                countWrong("tally(c)", c, got);
            }
        }
    }
}
