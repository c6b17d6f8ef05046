/** Walls that several tests begin with. An object is used for 512 calls at most, so they are made anew each time. */
final class Scenes {
    /** What lies on THE TAPE of a busy wall. */
    static final String TAPE = "way 33;n";

    private Scenes() {
    }

    /** A ROW of a SORT in SHELF s. */
    static void row(ThreeSizes x, int s, int sort, long... elements) {
        x.row(s, sort, elements.length);
        for (int i = 0; i < elements.length; i++) {
            x.set(s, i, elements[i]);
        }
    }

    /** A ROW of longs (SORT 3) in SHELF s. */
    static void fill(ThreeSizes x, int s, long... elements) {
        row(x, s, 3, elements);
    }

    static void boxes(ThreeSizes x, int small, int middle, int large) {
        sizes(x, 0, small, middle, large);
    }

    static void full(ThreeSizes x, int small, int middle, int large) {
        sizes(x, 1, small, middle, large);
    }

    static void goes(ThreeSizes x, int small, int middle, int large) {
        sizes(x, 2, small, middle, large);
    }

    private static void sizes(ThreeSizes x, int what, int small, int middle, int large) {
        x.size(0, what, small);
        x.size(1, what, middle);
        x.size(2, what, large);
    }

    /** One small box, GOES 3; always a small parcel, worth 10, back 5. */
    static ThreeSizes oneBox() {
        ThreeSizes x = new ThreeSizes();
        boxes(x, 1, 0, 0);
        x.sort(0, 100, 10, 5);
        return x;
    }

    /** The same with the box FULL. */
    static ThreeSizes oneFullBox() {
        ThreeSizes x = oneBox();
        x.size(0, 1, 1);
        return x;
    }

    /** No small box, one large one that is never fetched; a small SORT worth 2 and a large one worth 50, half and half. */
    static ThreeSizes scarce() {
        ThreeSizes x = new ThreeSizes();
        boxes(x, 0, 0, 1);
        x.size(2, 2, 0);
        x.sort(0, 50, 2, 0);
        x.sort(2, 50, 50, 0);
        return x;
    }

    /** A SORT of each SIZE, its number the SIZE. */
    static ThreeSizes threeSorts() {
        ThreeSizes x = new ThreeSizes();
        for (int size = 0; size < 3; size++) {
            x.sort(size, 10, 10, 5);
        }
        return x;
    }

    /**
     * Nothing is as it was at first: four SORTS (of SIZES 2, 0, 1, 2; 52 hundredths), FREE 2 0 3, another wall kept, a
     * day behind it, THE TAPE begun, REFUSALS of all numbers. SHELVES: 0 longs, 1 ints, 2 KEEP, 3 NOTHING, 4 booleans,
     * 5 WISE, 6 a ROW of none, 7 NOTHING.
     */
    static ThreeSizes busy() {
        ThreeSizes x = new ThreeSizes();
        x.size(0, 0, 1);
        x.sort(2, 7, 8, 9);
        x.seed(5);
        x.image();
        x.size(0, 0, 3);
        x.size(2, 0, 4);
        goes(x, 4, 7, 2);
        x.sort(0, 20, 12, 3);
        x.sort(1, 15, 20, 6);
        x.sort(2, 10, 30, 0);
        x.ask(0, 4);
        x.ask(1, 6);
        x.rule(2, 2, 1);
        x.go(2, 25);
        full(x, 1, 2, 1);
        fill(x, 0, 0, 1, 2, 3, 0, 1, 2, 9);
        row(x, 1, 2, 2, -1, 2, 2, 0, 1);
        row(x, 4, 4, 1, 0, 1);
        x.rule(5, 6, 3);
        x.row(6, 3, 0);
        refuseSome(x);
        Check.feed(x, TAPE);
        return x;
    }

    private static void refuseSome(ThreeSizes x) {
        for (int i = 0; i < 3; i++) {
            x.state(3);
        }
        x.set(2, 0, 0);
        x.set(3, 0, 0);
        x.set(3, 0, 0);
        x.size(0, 1, 4);
        for (int i = 0; i < 51; i++) {
            x.feed(0, 4);
        }
        x.wipe();
    }

    /** Six SORTS that come by 100 together, all boxes FULL, THE TAPE full, nothing kept, a LEAST in SHELF 0. */
    static ThreeSizes crowded() {
        ThreeSizes x = new ThreeSizes();
        full(x, 2, 2, 2);
        x.sort(0, 95, 10, 5);
        for (int i = 1; i < 6; i++) {
            x.sort(i % 3, 1, 10, 5);
        }
        x.rule(0, 1, 0);
        for (int i = 0; i < 50; i++) {
            x.feed(0x20202020, 4);
        }
        return x;
    }

    /** A DRAW as the document has it; seed[0] goes on. */
    static int drawn(int[] seed, int below) {
        seed[0] = (int) (seed[0] * 1103515245L + 12345L);
        return (int) ((seed[0] & 0xffffffffL) / 65536 % below);
    }

    /** A SEED behind which DRAWS come as told: below what, and which, in turn. */
    static int seedFor(int... draws) {
        for (int seed = 0; seed < 50000000; seed++) {
            int[] s = {seed};
            int i = 0;
            while (i < draws.length && drawn(s, draws[i]) == draws[i + 1]) {
                i += 2;
            }
            if (i == draws.length) {
                return seed;
            }
        }
        throw new IllegalStateException("no such seed");
    }

    /** The SEED after as many DRAWS. */
    static int seedAfter(int seed, int draws) {
        int[] s = {seed};
        for (int i = 0; i < draws; i++) {
            drawn(s, 1);
        }
        return s[0];
    }
}
