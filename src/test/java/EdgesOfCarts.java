/** Terms, third part, and promises 26 to 28: cartfuls and told placings, sentence by sentence. */
final class EdgesOfCarts {
    private static final int NONE = ThreeSizes.NONE;

    private EdgesOfCarts() {
    }

    private static void due(String call, long got, long want) {
        Check.due(call, got, want);
    }

    private static void placed(ThreeSizes x, int k, int n, long sum, int... sizes) {
        due("the sum", x.cart(0, k, n, NONE), sum);
        for (int i = 0; i < sizes.length; i++) {
            due("the SIZE of the " + i + "-th", x.cart(0, k, n, i), sizes[i]);
        }
    }

    /** SORTS of SIZES 0, 1, 2, worth 10 and 5 if they go back, that never come by themselves; so many boxes. */
    private static ThreeSizes wall(int small, int middle, int large) {
        ThreeSizes x = new ThreeSizes();
        Scenes.boxes(x, small, middle, large);
        for (int size = 0; size < 3; size++) {
            x.sort(size, 0, 10, 5);
        }
        return x;
    }

    private static void cartful() {
        Doc.quote(Doc.TERMS, "A CARTFUL: SORTS told by a ROW, 6 at most; all come at once, now.");
        ThreeSizes x = wall(4, 1, 0);
        Scenes.fill(x, 0, 0, 0, 0, 0, 0, 0, 0);
        placed(x, 6, 0, 50000000 - 5000000, NONE, 0, 0, 0, 0, 1);
        due("seven", x.cart(0, 7, 0, NONE), Check.FAR + Check.BAD);
        placed(x, 0, 0, 0);
        ThreeSizes y = wall(1, 0, 0);
        y.size(0, 1, 1);
        y.size(0, 2, 10);
        Scenes.fill(y, 0, 0);
        placed(y, 1, 5, -5000000, NONE);
    }

    private static void placedBest() {
        Doc.quote(Doc.TERMS, "PLACED best with n HOURS to come: of all ways to give each one a box into which it FITS, or none, the one of the greatest sum (1,000,000 times WORTH, or LOST of each, and BEST of n in the STATE after it);");
        ThreeSizes x = wall(0, 1, 1);
        Scenes.fill(x, 0, 0, 1, 2);
        // the small one has to go without, else the middle or the large one would
        placed(x, 3, 0, 15000000, NONE, 1, 2);
        placed(x, 2, 0, 20000000, 1, 2);
        ThreeSizes y = Scenes.scarce();
        Scenes.fill(y, 0, 0, 1);
        placed(y, 1, 0, 2000000, 2);
        placed(y, 1, 1, 26000000, NONE);
        placed(y, 2, 1, 50000000, NONE, 2);
        placed(y, 0, 24, y.best(24));
        y.size(2, 1, 1);
        placed(y, 2, 24, 0, NONE, NONE);
        y.ask(0, 10);
        y.ask(1, 99);
        placed(y, 2, 0, -97000000 - 49000000, NONE, NONE);
    }

    private static void ofSeveral() {
        Doc.quote(Doc.TERMS, "of several the first by the first one's SIZE (none first), then the second's, and so on.");
        ThreeSizes x = wall(1, 0, 1);
        Scenes.fill(x, 0, 0, 0, 0);
        placed(x, 1, 0, 10000000, 0);
        placed(x, 2, 0, 20000000, 0, 2);
        placed(x, 3, 0, 15000000, NONE, 0, 2);
        x.ask(0, 10);
        x.ask(1, 0);
        placed(x, 3, 0, 30000000, NONE, NONE, NONE);
        ThreeSizes y = wall(2, 2, 2);
        Scenes.fill(y, 0, 0, 0, 0, 1, 1, 2);
        placed(y, 6, 0, 60000000, 0, 0, 1, 1, 2, 2);
        Scenes.fill(y, 0, 2, 1, 0, 0, 0, 0);
        placed(y, 6, 0, 60000000, 2, 1, 0, 0, 1, 2);
    }

    private static void told() {
        Doc.quote(Doc.TERMS, "A told PLACING: a ROW of SIZES, one each (others than 0 to 2: none): WRONG at the first that doesn't fit, or has no FREE box any more.");
        ThreeSizes x = wall(1, 1, 1);
        Scenes.fill(x, 0, 0, 0, 0, 0, 0, 0);
        Scenes.fill(x, 1, 0, 1, 2, -1, 3, 99);
        due("0 to 2 are SIZES", x.judge(0, 1, 6), NONE);
        due("the others are none", x.put(0, 1, 6), 3);
        ThreeSizes y = wall(0, 0, 0);
        Scenes.fill(y, 0, 0, 0, 0, 0, 0, 0);
        Scenes.fill(y, 1, -1, 3, Long.MIN_VALUE, Long.MAX_VALUE, 4294967296L, 4294967298L);
        due("no SIZE, however many bits", y.judge(0, 1, 6), NONE);
        for (int size = 0; size < 3; size++) {
            Scenes.fill(y, 1, -1, size);
            due("no FREE box of SIZE " + size, y.judge(0, 1, 2), 1);
        }
        ThreeSizes z = wall(1, 1, 1);
        Scenes.fill(z, 0, 0, 1, 2, 0, 1, 2);
        Scenes.fill(z, 1, 0, 0, 1, 0, 0, 0);
        due("the first that doesn't fit", z.judge(0, 1, 6), 1);
        Scenes.fill(z, 1, 0, 1, 1, 0, 0, 0);
        due("a large one in a middle box", z.judge(0, 1, 6), 2);
        Scenes.fill(z, 1, 0, 1, 2, 0, 0, 0);
        due("the first with no FREE box any more", z.judge(0, 1, 6), 3);
        Scenes.fill(z, 1, 3, 3, 3, 3, 3, 1);
        due("the last one", z.judge(0, 1, 6), 5);
        due("it is not looked at", z.judge(0, 1, 5), NONE);
        Scenes.fill(z, 0, 2);
        Scenes.fill(z, 1, 0);
        due("the very first", z.judge(0, 1, 1), 0);
    }

    private static void cart() {
        Doc.quote(26, "PLACED best: of the CARTFUL by the first k elements (0 to 6) of the ROW in SHELF s with n HOURS to come: the sum (what NONE); the SIZE the i-th gets (NONE none).");
        Check.bounds(EdgesOfCarts::sixes, "cart(0, v, 1, NONE)", 0, 6, (x, v) -> x.cart(0, v, 1, NONE), Check.FAR);
        Check.bounds(EdgesOfCarts::sixes, "cart(0, 1, v, NONE)", 0, 24, (x, v) -> x.cart(0, 1, v, NONE), Check.FAR);
        Check.bounds(EdgesOfCarts::sixes, "cart(v, 0, 1, NONE)", 0, 7, (x, v) -> x.cart(v, 0, 1, NONE), Check.FAR);
        for (int k = 0; k <= 6; k++) {
            int many = k;
            Check.bounds(EdgesOfCarts::sixes, "cart(0, " + k + ", 1, v)", NONE, k - 1, (x, v) -> x.cart(0, many, 1, v), Check.FAR);
        }
        ThreeSizes x = sixes();
        placed(x, 6, 0, 60000000, 0, 0, 1, 1, 2, 2);
        placed(x, 0, 0, 0);
    }

    /** Two boxes of each SIZE; ROWS of six small ones in all SHELVES. */
    private static ThreeSizes sixes() {
        ThreeSizes x = wall(2, 2, 2);
        for (int s = 0; s < 8; s++) {
            x.row(s, 2, 6);
        }
        return x;
    }

    private static void cartRefused() {
        Doc.quote(26, "-1000000000002 also a number that is no SORT, fewer elements, no such one (ahead of the others); -1000000000003; -1000000000004.");
        // SHELF 0: 0 1 2 3 0 1 2 9, and there are four SORTS
        Check.taken(Scenes::busy, "six SORTS", x -> x.cart(0, 6, 1, 5));
        for (long number : new long[] {4, -1, 4294967296L, Long.MAX_VALUE, Long.MIN_VALUE}) {
            Check.refuses(() -> withSecond(number), "no SORT " + number, x -> x.cart(0, 2, 1, NONE), Check.FAR, Check.BAD);
            Check.taken(() -> withSecond(number), "behind the first k it may be", x -> x.cart(0, 1, 1, NONE));
        }
        Check.taken(Scenes::busy, "three of three elements", x -> x.cart(4, 3, 1, 2));
        refused("four of three elements", 4, 4, 1, NONE, Check.BAD);
        refused("one of no elements", 6, 1, 1, NONE, Check.BAD);
        Check.taken(Scenes::busy, "none of no elements", x -> x.cart(6, 0, 1, NONE));
        refused("no such one", 0, 3, 1, 3, Check.BAD);
        refused("no such one of none", 6, 0, 1, 0, Check.BAD);
        refused("a RULE", 2, 1, 1, NONE, Check.OTHER);
        refused("a RULE, all of it", 5, 6, 24, 5, Check.OTHER);
        refused("NOTHING", 3, 1, 1, NONE, Check.NOTHING);
        refused("NOTHING, all of it", 7, 6, 24, 5, Check.NOTHING);
        for (int s : new int[] {2, 3}) {
            refused("no such one, ahead", s, 3, 1, 3, Check.BAD);
            refused("-2, ahead", s, 3, 1, -2, Check.BAD);
            refused("seven, ahead", s, 7, 1, 0, Check.BAD);
            refused("25 HOURS, ahead", s, 3, 25, 0, Check.BAD);
        }
    }

    /** A busy wall whose first ROW has another second element. */
    private static ThreeSizes withSecond(long number) {
        ThreeSizes x = Scenes.busy();
        x.set(0, 1, number);
        return x;
    }

    private static void refused(String why, int s, int k, int n, int what, int number) {
        Check.refuses(Scenes::busy, why, x -> x.cart(s, k, n, what), Check.FAR, number);
    }

    private static void judge() {
        Doc.quote(27, "The place at which a told PLACING (the first k elements of the ROW in SHELF t) of the CARTFUL (those of the ROW in SHELF s) is WRONG; NONE.");
        Check.bounds(EdgesOfCarts::sixes, "judge(0, 1, v)", 0, 6, (x, v) -> x.judge(0, 1, v));
        Check.bounds(EdgesOfCarts::sixes, "judge(v, 1, 1)", 0, 7, (x, v) -> x.judge(v, 1, 1));
        Check.bounds(EdgesOfCarts::sixes, "judge(0, v, 1)", 0, 7, (x, v) -> x.judge(0, v, 1));
        ThreeSizes x = sixes();
        due("two small boxes", x.judge(0, 1, 2), NONE);
        due("the third is WRONG", x.judge(0, 1, 3), 2);
        due("and so it stays", x.judge(0, 1, 6), 2);
        due("of none NONE", x.judge(0, 1, 0), NONE);
        due("one ROW as both", x.judge(0, 0, 3), 2);
        due("judged only", x.state(1), 0);
        Check.onlyAsks(Scenes::busy, "judge", y -> y.judge(0, 1, 6));
    }

    private static void judgeRefused() {
        Doc.quote(27, "BAD SHELVES, k; OTHER; NOTHING; BAD a number that is no SORT, fewer elements in either.");
        placingRefused(true);
    }

    private static void putRefused() {
        Doc.quote(28, "BAD; OTHER; NOTHING; BAD; STUCK: it is WRONG.");
        placingRefused(false);
        // WRONG at its first, but it is looked at for numbers that are no SORTS first
        Check.refuses(EdgesOfCarts::wrongAndBad, "BAD ahead of STUCK", x -> x.put(0, 1, 2), Check.BAD);
        Check.refuses(EdgesOfCarts::wrongAndBad, "STUCK", x -> x.put(0, 1, 1), Check.STUCK);
        Check.refuses(EdgesOfCarts::wrongAndBad, "fewer elements ahead of STUCK", x -> x.put(0, 1, 4), Check.BAD);
        Check.refuses(EdgesOfCarts::sixes, "no FREE box for the last", x -> x.put(0, 1, 3), Check.STUCK);
        Check.taken(EdgesOfCarts::sixes, "the last FREE box", x -> x.put(0, 1, 2));
    }

    private static ThreeSizes wrongAndBad() {
        ThreeSizes x = wall(1, 1, 1);
        Scenes.fill(x, 0, 1, 3, 1);
        Scenes.fill(x, 1, 0, 0, 0);
        return x;
    }

    private static void placingRefused(boolean judged) {
        // SHELVES of a busy wall: 0 longs 0 1 2 3 0 1 2 9, 1 ints, 2 KEEP, 3 NOTHING, 4 three booleans, 5 WISE, 6 of none
        int[][] cases = {
            {8, 2, 0, Check.BAD}, {2, 8, 0, Check.BAD}, {8, 3, 0, Check.BAD}, {3, -1, 0, Check.BAD}, {8, 8, 7, Check.BAD},
            {2, 0, 7, Check.BAD}, {3, 0, -1, Check.BAD}, {0, 2, 7, Check.BAD}, {0, 3, -1, Check.BAD},
            {2, 0, 6, Check.OTHER}, {0, 2, 6, Check.OTHER}, {2, 5, 0, Check.OTHER}, {2, 3, 0, Check.OTHER},
            {3, 2, 0, Check.OTHER}, {6, 2, 1, Check.OTHER}, {2, 6, 1, Check.OTHER},
            {3, 0, 6, Check.NOTHING}, {0, 3, 6, Check.NOTHING}, {3, 7, 0, Check.NOTHING}, {6, 3, 1, Check.NOTHING},
            {3, 6, 1, Check.NOTHING}, {1, 3, 2, Check.NOTHING},
            {6, 0, 1, Check.BAD}, {0, 6, 1, Check.BAD}, {4, 0, 4, Check.BAD}, {0, 4, 4, Check.BAD}, {1, 0, 2, Check.BAD}};
        for (int[] c : cases) {
            String call = (judged ? "judge(" : "put(") + c[0] + ", " + c[1] + ", " + c[2] + ")";
            Check.refuses(Scenes::busy, call, x -> judged ? x.judge(c[0], c[1], c[2]) : x.put(c[0], c[1], c[2]), c[3]);
        }
        Check.taken(Scenes::busy, "three of three", x -> judged ? x.judge(4, 0, 3) : x.put(4, 0, 0));
        Check.taken(Scenes::busy, "none of none", x -> judged ? x.judge(6, 6, 0) : x.put(6, 6, 0));
        for (long number : new long[] {4, -1, 4294967296L, Long.MIN_VALUE}) {
            Check.refuses(() -> {
                ThreeSizes x = Scenes.busy();
                x.set(0, 0, number);
                return x;
            }, "no SORT " + number, x -> judged ? x.judge(0, 1, 1) : x.put(0, 1, 1), Check.BAD);
        }
    }

    private static void put() {
        Doc.quote(28, "Such a PLACING is done: boxes are FULL then: how many got one.");
        Check.bounds(() -> {
            ThreeSizes x = sixes();
            x.size(0, 0, 4);
            Scenes.row(x, 1, 2, 0, 0, 1, 1, 2, 2);
            return x;
        }, "put(0, 1, v)", 0, 6, (x, v) -> x.put(0, 1, v));
        ThreeSizes x = wall(2, 2, 2);
        Scenes.fill(x, 0, 0, 1, 2, 0, 1, 2);
        Scenes.fill(x, 1, 0, 1, 2, 1, 2, -1);
        due("none", x.put(0, 1, 0), 0);
        due("nothing is FULL", x.state(1), 0);
        due("five of six", x.put(0, 1, 6), 5);
        due("FULL", x.status(4) * 100 + x.status(5) * 10 + x.status(6), 122);
        due("not in truth: none that got a box", x.day(1), 0);
        Scenes.fill(x, 1, 3, 3, 3, 3, 3, 3);
        due("six that get none", x.put(0, 1, 6), 0);
        Scenes.fill(x, 1, 0);
        due("the last FREE box", x.put(0, 1, 1), 1);
        due("all are FULL", x.state(0), 0);
        due("none any more", x.put(0, 1, 1), Check.STUCK);
    }

    static void run() {
        cartful();
        placedBest();
        ofSeveral();
        told();
        cart();
        cartRefused();
        judge();
        judgeRefused();
        put();
        putRefused();
    }
}
