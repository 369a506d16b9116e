/** The table of the ten classes in "What it is", a row at a time, with values that Java names for the same kinds. */
public final class ClassTableTest {
    public static void main(String[] args) {
        Checks.sentence("| 0 | negative infinity | 1 |", () -> rowDue(0, 1, bits(Float.NEGATIVE_INFINITY)));
        Checks.sentence("| 1 | negative normal | 2 |",
            () -> rowDue(1, 2, bits(-Float.MAX_VALUE), bits(-1.0f), bits(-Float.MIN_NORMAL)));
        Checks.sentence("| 2 | negative subnormal | 4 |",
            () -> rowDue(2, 4, bits(Math.nextUp(-Float.MIN_NORMAL)), bits(-Float.MIN_VALUE)));
        Checks.sentence("| 3 | negative zero | 8 |", () -> rowDue(3, 8, bits(-0.0f)));
        Checks.sentence("| 4 | positive zero | 16 |", () -> rowDue(4, 16, bits(0.0f)));
        Checks.sentence("| 5 | positive subnormal | 32 |",
            () -> rowDue(5, 32, bits(Float.MIN_VALUE), bits(Math.nextDown(Float.MIN_NORMAL))));
        Checks.sentence("| 6 | positive normal | 64 |",
            () -> rowDue(6, 64, bits(Float.MIN_NORMAL), bits(1.0f), bits(Float.MAX_VALUE)));
        Checks.sentence("| 7 | positive infinity | 128 |", () -> rowDue(7, 128, bits(Float.POSITIVE_INFINITY)));
        // Written as patterns: a signalling NaN may turn quiet on its way through a float.
        Checks.sentence("| 8 | signalling NaN (either sign) | 256 |",
            () -> rowDue(8, 256, 0x7F800001, 0xFF800001, 0x7FBFFFFF, 0xFFBFFFFF));
        Checks.sentence("| 9 | quiet NaN (either sign) | 512 |",
            () -> rowDue(9, 512, bits(Float.NaN), 0xFFC00000, 0x7FFFFFFF, 0xFFFFFFFF));
        Checks.end();
    }

    private static int bits(float value) {
        return Float.floatToRawIntBits(value);
    }

    private static void rowDue(int k, int answer, int... patterns) {
        FpClassify census = new FpClassify();
        int[] want = Checks.allAt(0);
        for (int pattern : patterns) {
            String call = "classify(0x" + Integer.toHexString(pattern) + ")";
            Checks.due(call, census.classify(pattern), answer);
            want[k]++;
            Checks.talliesDue("after " + call, census, want);
        }
    }
}
