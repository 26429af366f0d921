/** The draws of the document, worked out in longs, and seeds by which they fall as a test needs them. */
final class Lot {
    /** For a draw of which nothing is wanted. */
    static final int ANY = -1;
    private static final long INTS = 1L << 32;
    private long z;

    Lot(int seed) {
        z = Math.floorMod((long) seed, INTS);
    }

    int draw() {
        z = (z * 1103515245L + 12345L) % INTS;
        return (int) (z / 256);
    }

    int z() {
        return (int) z;
    }

    /** z behind so many draws. */
    static int behind(int seed, int draws) {
        Lot lot = new Lot(seed);
        for (int i = 0; i < draws; i++) {
            lot.draw();
        }
        return lot.z();
    }

    /** The first seed by which the k-th draw has the rest wanted[k] by by[k]. */
    static int seed(int[] by, int[] wanted) {
        for (int seed = 0; seed < 100000000; seed++) {
            Lot lot = new Lot(seed);
            boolean fits = true;
            for (int k = 0; k < by.length && fits; k++) {
                int rest = lot.draw() % by[k];
                fits = wanted[k] == ANY || rest == wanted[k];
            }
            if (fits) {
                return seed;
            }
        }
        throw new IllegalStateException("no such seed");
    }

    /** A seed of a minute: the birds' yard, the rest by 100 that a gust is measured by, the gust's yard. */
    static int minute(int birds, int strength, int gust) {
        return seed(new int[] {60, 100, 60}, new int[] {birds, strength, gust});
    }
}
