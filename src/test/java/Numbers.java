/** Numbers that look drawn by lot, for long runs; the same in every run of the tests. */
final class Numbers {
    private long seed;

    Numbers(long seed) {
        this.seed = seed;
    }

    /** The next number from low to high. */
    int from(int low, int high) {
        seed += 0x9E3779B97F4A7C15L;
        long mixed = (seed ^ (seed >>> 30)) * 0xBF58476D1CE4E5B9L;
        mixed = (mixed ^ (mixed >>> 27)) * 0x94D049BB133111EBL;
        return low + (int) ((mixed >>> 33) % (high - low + 1));
    }
}
