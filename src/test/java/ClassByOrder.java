/** The class of a pattern by the order of the magnitudes, not by fields, so that it shares no step with the program. */
final class ClassByOrder {
    private ClassByOrder() {
    }

    static int of(int bits) {
        int magnitude = bits & Integer.MAX_VALUE;
        if (magnitude >= 0x7FC00000) {
            return 9;
        }
        if (magnitude > 0x7F800000) {
            return 8;
        }
        int steps = magnitude == 0 ? 0 : magnitude < 0x00800000 ? 1 : magnitude < 0x7F800000 ? 2 : 3;
        return bits < 0 ? 3 - steps : 4 + steps;
    }
}
