/** Numbers that look mixed, and are the same each time from the same seed. */
final class Numbers {
    private long seed;

    Numbers(long seed) {
        this.seed = seed;
    }

    long next() {
        seed += 0x9e3779b97f4a7c15L;
        long z = (seed ^ seed >>> 30) * 0xbf58476d1ce4e5b9L;
        z = (z ^ z >>> 27) * 0x94d049bb133111ebL;
        return z ^ z >>> 31;
    }

    /** 0 .. n - 1 */
    int upTo(int n) {
        return (int) Long.remainderUnsigned(next(), n);
    }
}
