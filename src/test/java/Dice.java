/** Numbers that look thrown, and are the same in each run of the tests. */
final class Dice {
    private long state;

    Dice(long seed) {
        this.state = seed * 0x9E3779B97F4A7C15L + 1;
    }

    int from(int least, int most) {
        state = state * 6364136223846793005L + 1442695040888963407L;
        return least + (int) ((state >>> 33) % (most - least + 1));
    }

    boolean oneIn(int n) {
        return from(1, n) == 1;
    }
}
