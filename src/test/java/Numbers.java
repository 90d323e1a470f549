/** The same row of numbers each time, for runs that no hand wrote. */
final class Numbers {
    private long state;

    Numbers(long seed) {
        state = seed * 0x9E3779B97F4A7C15L + 0x1234567L;
    }

    int from(int least, int most) {
        state = state * 6364136223846793005L + 1442695040888963407L;
        long high = state >>> 33;
        return (int) (least + high % ((long) most - least + 1));
    }
}
