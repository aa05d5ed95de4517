/** The same numbers in every run, so that a failing walk can be walked again. */
final class Dice {
    private long state;

    Dice(int seed) {
        state = seed * 7919L + 12345;
    }

    int below(int bound) {
        state = state * 6364136223846793005L + 1442695040888963407L;
        return (int) ((state >>> 33) % bound);
    }
}
