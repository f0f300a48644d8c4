/** Chance that is the same at each run of the tests. */
final class Dice {
    private long seed;

    Dice(long seed) {
        this.seed = seed * 7919 + 17;
    }

    int below(int bound) {
        seed = seed * 6364136223846793005L + 1442695040888963407L;
        return (int) Math.floorMod(seed >> 33, (long) bound);
    }

    int between(int least, int most) {
        return least + below(most - least + 1);
    }

    /** Mostly in range; at times an edge, beside it, or far from it. */
    int about(int least, int most) {
        int[] edges = {least, most, least - 1, most + 1, Integer.MIN_VALUE, Integer.MAX_VALUE};
        return below(12) == 0 ? edges[below(edges.length)] : between(least, most);
    }
}
