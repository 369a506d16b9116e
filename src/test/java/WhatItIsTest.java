/** "What it is": the sentences said of the class as a whole, over runs in which the calls are mixed. */
public final class WhatItIsTest {
    private static final int RUNS = 40;
    private static final int CALLS = 2000;

    public static void main(String[] args) {
        Checks.sentence("`FpClassify` is a census of IEEE binary32 bit patterns by the ten classes of RISC-V FCLASS.S.",
            WhatItIsTest::itIsACensus);
        Checks.sentence("It keeps ten tallies, numbered 0 to 9.", WhatItIsTest::thereAreTenTallies);
        Checks.sentence("Each tally is always a value from 0 to 32767", WhatItIsTest::talliesAreAlwaysInRange);
        Checks.sentence("and all are 0 at first.", WhatItIsTest::allAreZeroAtFirst);
        Checks.sentence("Each time a bit pattern is classified, the tally of its class grows by one, "
            + "except that a tally already at 32767 stays at 32767.", WhatItIsTest::classifiedPatternsAreCounted);
        Checks.sentence("Tallies can also be set directly, read one at a time, and the tallies of the finite classes "
            + "can be summed.", WhatItIsTest::mixedCallsAnswerAsTheModel);
        Checks.sentence("Nothing here ever throws, for any argument and in any state.", WhatItIsTest::nothingThrows);
        Checks.end();
    }

    /** Java's float is binary32 too: its own arithmetic says of each pattern what kind of number it is. */
    private static void itIsACensus() {
        FpClassify census = new FpClassify();
        int[] want = Checks.allAt(0);
        for (int step = 0; step < 100000; step++) {
            int bits = step * 0x9E3779B1;
            int k = classByFloat(bits);
            want[k] = Math.min(want[k] + 1, Checks.GREATEST_TALLY);
            Checks.due("classify(0x" + Integer.toHexString(bits) + ")", census.classify(bits), 1L << k);
        }
        Checks.talliesDue("100000 patterns classified", census, want);
    }

    /** Only the kind of a NaN is told by its bit, since no arithmetic tells it. */
    private static int classByFloat(int bits) {
        float value = Float.intBitsToFloat(bits);
        if (Float.isNaN(value)) {
            return (bits & 0x00400000) != 0 ? 9 : 8;
        }
        boolean negative = Math.copySign(1.0f, value) < 0;
        float magnitude = Math.abs(value);
        if (magnitude == Float.POSITIVE_INFINITY) {
            return negative ? 0 : 7;
        }
        if (magnitude >= Float.MIN_NORMAL) {
            return negative ? 1 : 6;
        }
        if (magnitude > 0) {
            return negative ? 2 : 5;
        }
        return negative ? 3 : 4;
    }

    private static void thereAreTenTallies() {
        FpClassify census = Checks.distinctCensus();
        Checks.talliesDue("ten set apart", census, Checks.distinct());
        Checks.due("tally(-1), before the first", census.tally(-1), -1);
        Checks.due("tally(10), after the last", census.tally(10), -1);
    }

    private static void talliesAreAlwaysInRange() {
        for (int run = 0; run < RUNS; run++) {
            Calls calls = new Calls(run);
            FpClassify census = new FpClassify();
            for (int call = 0; call < CALLS; call++) {
                String made = calls.next();
                calls.answerOf(census);
                for (int c = 0; c < Checks.CLASSES; c++) {
                    Checks.inRange("run " + run + ", after " + made + ": tally(" + c + ")", census.tally(c));
                }
            }
        }
    }

    private static void allAreZeroAtFirst() {
        Checks.talliesDue("at first", new FpClassify(), Checks.allAt(0));
    }

    private static void classifiedPatternsAreCounted() {
        FpClassify census = new FpClassify();
        int[] want = Checks.allAt(0);
        for (int time = 1; time <= 33000; time++) {
            for (int k = 0; k < Checks.CLASSES; k++) {
                census.classify(Checks.patternOf(k));
                want[k] = Math.min(time, Checks.GREATEST_TALLY);
            }
            Checks.talliesDue("each class classified " + time + " times", census, want);
        }
    }

    private static void mixedCallsAnswerAsTheModel() {
        for (int run = 0; run < RUNS; run++) {
            Calls calls = new Calls(run);
            FpClassify census = new FpClassify();
            Model model = new Model();
            for (int call = 0; call < CALLS; call++) {
                String made = "run " + run + ", call " + call + ", " + calls.next();
                Checks.due(made, calls.answerOf(census), calls.answerOf(model));
                Checks.talliesDue("after " + made, census, model.tallies);
            }
        }
    }

    private static void nothingThrows() {
        for (int[] state : Checks.states()) {
            FpClassify census = Checks.censusOf(state);
            for (int run = 0; run < RUNS; run++) {
                Calls calls = new Calls(run);
                for (int call = 0; call < CALLS; call++) {
                    String made = calls.next();
                    Checks.doesNotThrow(made, () -> calls.answerOf(census));
                }
            }
        }
    }

    /** The document's words in their plainest form, to compare with. */
    private static final class Model {
        final int[] tallies = Checks.allAt(0);

        int classify(int bits) {
            int k = ClassByOrder.of(bits);
            tallies[k] = Math.min(tallies[k] + 1, Checks.GREATEST_TALLY);
            return 1 << k;
        }

        int preset(int c, int v) {
            if (c < 0 || c > 9) {
                return -1;
            }
            tallies[c] = Math.max(0, Math.min(v, Checks.GREATEST_TALLY));
            return tallies[c];
        }

        int tally(int c) {
            return c < 0 || c > 9 ? -1 : tallies[c];
        }

        int finite() {
            return tallies[1] + tallies[2] + tallies[3] + tallies[4] + tallies[5] + tallies[6];
        }
    }

    /** A row of calls that its number fixes, so that a wrong run can be run again. */
    private static final class Calls {
        private static final int[] VALUES = Checks.allValues();
        private long seed;
        private int method;
        private int first;
        private int second;

        Calls(int number) {
            seed = number;
        }

        private int draw() {
            seed = seed * 6364136223846793005L + 1442695040888963407L;
            return (int) (seed >>> 32);
        }

        private int drawBelow(int bound) {
            return Math.floorMod(draw(), bound);
        }

        private int drawClass() {
            return drawBelow(4) == 0 ? Checks.NO_CLASSES[drawBelow(Checks.NO_CLASSES.length)] : drawBelow(Checks.CLASSES);
        }

        private int drawPattern() {
            int kind = drawBelow(3);
            if (kind == 0) {
                return draw();
            }
            int near = Checks.patternOf(drawBelow(Checks.CLASSES));
            return kind == 1 ? near : near + drawBelow(3) - 1;
        }

        /** Goes on to the next call and answers how it is written. */
        String next() {
            int kind = drawBelow(10);
            method = kind < 5 ? 0 : kind < 7 ? 1 : kind < 9 ? 2 : 3;
            first = method == 0 ? drawPattern() : drawClass();
            second = VALUES[drawBelow(VALUES.length)];
            return switch (method) {
                case 0 -> "classify(" + first + ")";
                case 1 -> "preset(" + first + ", " + second + ")";
                case 2 -> "tally(" + first + ")";
                default -> "finite()";
            };
        }

        int answerOf(FpClassify census) {
            return switch (method) {
                case 0 -> census.classify(first);
                case 1 -> census.preset(first, second);
                case 2 -> census.tally(first);
                default -> census.finite();
            };
        }

        int answerOf(Model model) {
            return switch (method) {
                case 0 -> model.classify(first);
                case 1 -> model.preset(first, second);
                case 2 -> model.tally(first);
                default -> model.finite();
            };
        }
    }
}
