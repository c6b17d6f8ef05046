/** Terms, second part: HOURS, RULES, LOST, VALUE and BEST, sentence by sentence. */
final class EdgesOfHours {
    private static final int NONE = ThreeSizes.NONE;

    private EdgesOfHours() {
    }

    private static void due(String call, long got, long want) {
        Check.due(call, got, want);
    }

    /** One FULL box of each SIZE, GOES 5 each, no SORTS. */
    private static ThreeSizes threeFull() {
        ThreeSizes x = new ThreeSizes();
        Scenes.boxes(x, 1, 1, 1);
        Scenes.full(x, 1, 1, 1);
        Scenes.goes(x, 5, 5, 5);
        x.rule(0, 1, 0);
        return x;
    }

    private static void fetching() {
        Doc.quote(Doc.TERMS, "An HOUR: first, by SIZES, a FULL box of each is fetched or not, by GOES, each apart from the others;");
        for (int bits = 0; bits < 8; bits++) {
            ThreeSizes x = threeFull();
            x.seed(Scenes.seedFor(10, bits & 1, 10, bits & 2, 10, 5 * (bits >> 2)));
            Scenes.goes(x, 1, 2, 5);
            x.go(0, 1);
            for (int size = 0; size < 3; size++) {
                due("SIZE " + size + " by draws " + bits, x.status(4 + size), bits >> size & 1);
            }
        }
        ThreeSizes y = Scenes.oneFullBox();
        y.size(0, 2, 10);
        y.rule(0, 1, 0);
        due("fetched first: then there is a FREE one", y.go(0, 1), 10);
        due("in VALUE, too", y.value(0, 1), 10000000);
        ThreeSizes z = threeFull();
        z.sort(0, 100, 10, 5);
        // none is fetched by 125 of 1000
        due("each apart from the others", z.best(1), 10000000 * 875L / 1000 - 5000000 * 125L / 1000);
    }

    private static void coming() {
        Doc.quote(Doc.TERMS, "then one parcel comes at most: each SORT by its hundredths, none by the rest;");
        int[][] drawnAndBrought = {{0, 1}, {29, 1}, {30, 4}, {49, 4}, {50, 0}, {99, 0}};
        for (int[] c : drawnAndBrought) {
            ThreeSizes x = new ThreeSizes();
            x.rule(0, 1, 0);
            x.sort(0, 30, 1, 0);
            x.sort(0, 0, 2, 0);
            x.sort(0, 20, 4, 0);
            x.seed(Scenes.seedFor(100, c[0]));
            due("by a draw of " + c[0], x.go(0, 1), c[1]);
            due("one at most", x.day(1) + x.day(2) + x.day(3), c[1] == 0 ? 0 : 1);
            due("in VALUE", x.best(1), 300000 + 800000);
        }
        ThreeSizes x = new ThreeSizes();
        x.rule(0, 1, 0);
        x.sort(0, 99, 1, 0);
        x.sort(1, 1, 2, 0);
        x.seed(Scenes.seedFor(100, 98));
        due("the 99th hundredth", x.go(0, 1), 1);
        x.seed(Scenes.seedFor(10, 9, 100, 99));
        due("the hundredth hundredth", x.go(0, 1), 2);
    }

    private static void boxOrNone() {
        Doc.quote(Doc.TERMS, "it gets a FREE box into which it FITS, or none.");
        ThreeSizes x = Scenes.oneBox();
        x.size(0, 2, 0);
        x.rule(0, 1, 0);
        due("the last FREE box", x.go(0, 1), 10);
        due("is FULL", x.status(4), 1);
        due("then none", x.go(0, 1), -5);
        due("still one FULL", x.status(4) * 10 + x.day(3), 11);
        ThreeSizes y = new ThreeSizes();
        Scenes.boxes(y, 4, 4, 0);
        y.sort(2, 100, 10, 5);
        y.rule(0, 1, 0);
        due("none into which it FITS", y.go(0, 3), -15);
        due("all FREE still", y.state(0), 8);
    }

    private static void state() {
        Doc.quote(Doc.TERMS, "A STATE: how many are FREE of each SIZE: told as FREE of 0, 5 times FREE of 1 and 25 times FREE of 2 together.");
        ThreeSizes x = new ThreeSizes();
        Scenes.boxes(x, 4, 4, 4);
        due("all FREE", x.state(2), 124);
        Scenes.full(x, 3, 4, 4);
        due("one small one", x.state(2), 1);
        Scenes.full(x, 4, 3, 4);
        due("one middle one", x.state(2), 5);
        Scenes.full(x, 4, 4, 3);
        due("one large one", x.state(2), 25);
        Scenes.full(x, 4, 4, 4);
        due("none", x.state(2), 0);
        Scenes.full(x, 3, 2, 1);
        due("1 2 3", x.state(2), 86);
    }

    /** SORT of SIZE 0, 1, 2 worth 10, 20, 30; four boxes each; a RULE in SHELF 0. */
    private static ThreeSizes ruled(int kind, int a) {
        ThreeSizes x = new ThreeSizes();
        Scenes.boxes(x, 4, 4, 4);
        for (int size = 0; size < 3; size++) {
            x.sort(size, 10, 10 + 10 * size, 5);
        }
        x.rule(0, kind, a);
        return x;
    }

    private static void given(ThreeSizes x, int sort, int small, int middle, int large, int want) {
        String call = "SORT " + sort + ", FREE " + small + " " + middle + " " + large;
        due(call, x.gets(0, sort, small + 5 * middle + 25 * large), want);
    }

    private static void rules() {
        Doc.quote(Doc.TERMS, "RULES have a KIND and a (0 to 99) and say for a SORT in a STATE which SIZE it gets, or none (NONE): 0 RULE;");
        for (int kind = 1; kind <= 6; kind++) {
            int k = kind;
            Check.bounds(Scenes::busy, "a of KIND " + kind, 0, 99, (x, v) -> x.rule(3, k, v));
            for (int sort = 0; sort < 3; sort++) {
                given(ruled(kind, 0), sort, 0, 0, 0, NONE);
            }
        }
        Check.bounds(Scenes::busy, "KIND of a new RULE", 1, 6, (x, v) -> x.rule(3, v, 1));
    }

    private static void least() {
        Doc.quote(Doc.TERMS, "1 LEAST, under RULE: the least SIZE that has a FREE box and into which it FITS;");
        ThreeSizes x = ruled(1, 99);
        given(x, 0, 1, 4, 4, 0);
        given(x, 0, 0, 1, 4, 1);
        given(x, 0, 0, 0, 1, 2);
        given(x, 1, 4, 1, 4, 1);
        given(x, 1, 4, 0, 1, 2);
        given(x, 1, 4, 0, 0, NONE);
        given(x, 2, 4, 4, 1, 2);
        given(x, 2, 4, 4, 0, NONE);
    }

    private static void keep() {
        Doc.quote(Doc.TERMS, "2 KEEP, under LEAST: as LEAST, but not one of a SIZE greater than its own of which no more than a are FREE (then the next greater one is looked at);");
        for (int a = 0; a <= 3; a++) {
            ThreeSizes x = ruled(2, a);
            given(x, 0, 0, a, 0, NONE);
            given(x, 0, 0, a + 1, 0, 1);
            given(x, 0, 0, a, a, NONE);
            given(x, 0, 0, a, a + 1, 2);
            given(x, 0, 0, a + 1, a + 1, 1);
            given(x, 1, 4, 0, a, NONE);
            given(x, 1, 4, 0, a + 1, 2);
            given(x, 0, 1, 4, 4, 0);
            given(x, 1, 4, 1, 4, 1);
            given(x, 2, 4, 4, 1, 2);
        }
        for (int a : new int[] {4, 99}) {
            ThreeSizes x = ruled(2, a);
            given(x, 0, 0, 4, 4, NONE);
            given(x, 0, 1, 4, 4, 0);
            given(x, 2, 0, 0, 1, 2);
        }
    }

    private static void some() {
        Doc.quote(Doc.TERMS, "3 SOME, under LEAST: as LEAST, but none, if its WORTH is below a;");
        for (int sort = 0; sort < 3; sort++) {
            int worth = 10 + 10 * sort;
            given(ruled(3, worth - 1), sort, 1, 1, 1, sort);
            given(ruled(3, worth), sort, 1, 1, 1, sort);
            given(ruled(3, worth + 1), sort, 1, 1, 1, NONE);
        }
        given(ruled(3, 0), 0, 0, 1, 1, 1);
        given(ruled(3, 0), 0, 0, 0, 0, NONE);
        ThreeSizes x = new ThreeSizes();
        x.sort(0, 1, 99, 0);
        x.rule(0, 3, 99);
        due("WORTH 99, a 99", x.gets(0, 0, 1), 0);
    }

    private static void great() {
        Doc.quote(Doc.TERMS, "4 GREAT, under RULE: the greatest such SIZE;");
        ThreeSizes x = ruled(4, 99);
        given(x, 0, 4, 4, 1, 2);
        given(x, 0, 4, 1, 0, 1);
        given(x, 0, 1, 0, 0, 0);
        given(x, 1, 4, 1, 0, 1);
        given(x, 1, 4, 0, 0, NONE);
        given(x, 2, 4, 4, 1, 2);
        given(x, 2, 4, 4, 0, NONE);
    }

    private static void even() {
        Doc.quote(Doc.TERMS, "5 EVEN, under GREAT: of such SIZES that with most FREE, of several the greatest;");
        ThreeSizes x = ruled(5, 99);
        given(x, 0, 1, 1, 1, 2);
        given(x, 0, 2, 2, 1, 1);
        given(x, 0, 2, 1, 2, 2);
        given(x, 0, 2, 1, 1, 0);
        given(x, 0, 3, 4, 3, 1);
        given(x, 0, 4, 4, 4, 2);
        given(x, 1, 4, 1, 0, 1);
        given(x, 1, 4, 2, 1, 1);
        given(x, 1, 4, 0, 0, NONE);
        given(x, 2, 4, 4, 0, NONE);
        given(x, 2, 4, 4, 1, 2);
    }

    /** One large box, never fetched; a small SORT worth 18 that is there to be asked for, a large one that comes by 1 of 100. */
    private static ThreeSizes longWait(int worth, int a) {
        ThreeSizes x = new ThreeSizes();
        Scenes.boxes(x, 0, 0, 1);
        x.size(2, 2, 0);
        x.sort(0, 0, 18, 0);
        x.sort(2, 1, worth, 0);
        x.rule(0, 6, a);
        return x;
    }

    private static void wise() {
        Doc.quote(Doc.TERMS, "6 WISE, under RULE: what is BEST with a HOURS to come (20 at most count).");
        // what the box brings to come: 99 times (1 less 0.99 to the 19th) is 17.2, to the 20th 18.03
        due("19 HOURS: it takes it", longWait(99, 19).gets(0, 0, 25), 2);
        due("20 HOURS: it is left", longWait(99, 20).gets(0, 0, 25), NONE);
        // 96 times (1 less 0.99 to the 20th) is 17.5, to the 21st 18.3
        for (int a : new int[] {20, 21, 24, 25, 99}) {
            ThreeSizes x = longWait(96, a);
            due("a " + a + ": 20 count", x.gets(0, 0, 25), 2);
            due("a " + a + ": so many HOURS count", x.says(0, 6), 20);
            due("a " + a + ": its VALUE", x.value(0, 24), x.best(24));
        }
        due("21 HOURS would leave it", longWait(96, 0).now(0, 21), NONE);
        due("no HOURS", longWait(99, 0).gets(0, 0, 25), 2);
        due("one HOUR", longWait(99, 1).says(0, 6), 1);
        ThreeSizes y = Scenes.scarce();
        y.rule(0, 6, 0);
        y.rule(1, 6, 1);
        due("no HOURS to come: it takes it", y.gets(0, 0, 25), 2);
        due("one HOUR to come: it is left", y.gets(1, 0, 25), NONE);
    }

    private static void lost() {
        Doc.quote(Doc.TERMS, "LOST of a SORT that gets none, in millionths: 100,000 times (NEAR times (WORTH less WAY), less (10 less NEAR) times BACK).");
        // WORTH, BACK, NEAR, WAY, LOST
        int[][] cases = {{1, 99, 0, 99, -99000000}, {99, 0, 0, 0, 0}, {99, 99, 10, 0, 99000000}, {1, 99, 10, 99, -98000000},
            {99, 99, 10, 99, 0}, {50, 20, 1, 10, 100000 * (40 - 180)}, {50, 20, 9, 10, 100000 * (360 - 20)}};
        for (int[] c : cases) {
            ThreeSizes x = new ThreeSizes();
            x.sort(0, 100, c[0], c[1]);
            x.ask(0, c[2]);
            x.ask(1, c[3]);
            due("lost", x.lost(0), c[4]);
            Scenes.boxes(x, 0, 0, 0);
            due("an HOUR of it", x.best(1), c[4]);
            due("24 HOURS of it", x.best(24), 24L * c[4]);
        }
    }

    private static void value() {
        Doc.quote(Doc.TERMS, "VALUE of n HOURS (0 to 24) in a STATE by a RULE, in millionths: of 0 HOURS 0;");
        Check.bounds(Scenes::busy, "value(2, v)", 0, 24, (x, v) -> x.value(2, v), Check.FAR);
        for (int kind = 1; kind <= 6; kind++) {
            ThreeSizes x = ruled(kind, 20);
            due("of 0 HOURS by " + kind, x.value(0, 0), 0);
        }
        ThreeSizes most = new ThreeSizes();
        most.sort(0, 100, 99, 0);
        most.size(0, 2, 10);
        most.rule(0, 1, 0);
        due("the most there can be", most.value(0, 24), 24 * 99000000L);
        ThreeSizes fewest = new ThreeSizes();
        fewest.sort(0, 100, 1, 99);
        fewest.rule(0, 3, 2);
        due("the least there can be", fewest.value(0, 24), 24 * -99000000L);
    }

    private static void fetchedOrNot() {
        Doc.quote(Doc.TERMS, "of n: over all ways in which boxes are fetched (each by GOES, or 10 less GOES; where none is FULL it is not fetched by 10) and what comes (hundredths)");
        for (int goes = 0; goes <= 10; goes++) {
            ThreeSizes x = Scenes.oneBox();
            x.rule(0, 1, 0);
            x.size(0, 2, goes);
            due("none is FULL", x.value(0, 1), 10000000);
            x.size(0, 1, 1);
            due("one is FULL", x.value(0, 1), 1000000L * goes - 500000L * (10 - goes));
            due("the best, too", x.best(1), 1000000L * goes - 500000L * (10 - goes));
        }
        ThreeSizes y = new ThreeSizes();
        Scenes.boxes(y, 0, 0, 0);
        y.sort(0, 30, 10, 5);
        y.rule(0, 1, 0);
        due("no boxes at all", y.value(0, 1), -1500000);
        ThreeSizes z = new ThreeSizes();
        z.rule(0, 1, 0);
        due("nothing comes at all", z.value(0, 24), 0);
        z.sort(0, 100, 10, 5);
        due("something comes for sure", z.value(0, 1), 10000000);
    }

    /** One small box, FULL; one SORT comes by 1 of 100: what is cut. */
    private static ThreeSizes seldom(int back) {
        ThreeSizes x = new ThreeSizes();
        Scenes.boxes(x, 1, 0, 0);
        x.size(0, 1, 1);
        x.sort(0, 1, 1, back);
        x.rule(0, 1, 0);
        return x;
    }

    private static void cut() {
        Doc.quote(Doc.TERMS, "the sum of these multiplied times (1,000,000 times WORTH, or LOST, and VALUE of n less 1 in the STATE after that), by 100,000, cut toward 0.");
        // FULL, FREE of n HOURS: 3000, 10000; 8079, 19930; 14598.7, 29811.5; 22116.3, 39658.9; 30325.97
        long[] due = {0, 3000, 8079, 14598, 22116, 30325};
        ThreeSizes x = seldom(0);
        for (int n = 0; n < due.length; n++) {
            due("VALUE, cut in each HOUR", x.value(0, n), due[n]);
            due("BEST, cut in each HOUR", x.best(n), due[n]);
        }
        // 3/10 * (1/100 * (1,000,000 - 1,172,100) + 99/100 * 13,000) - 7/10 * 2,162,100 = -1,510,125.3
        long[] below = {0, -690000, -1172100, -1510125};
        ThreeSizes y = seldom(99);
        for (int n = 0; n < below.length; n++) {
            due("VALUE below 0, cut toward 0", y.value(0, n), below[n]);
            due("BEST below 0, cut toward 0", y.best(n), below[n]);
        }
    }

    private static void best() {
        Doc.quote(Doc.TERMS, "BEST: the same, where each SORT gets what makes that greatest, of several none rather than one, then the least SIZE.");
        ThreeSizes x = Scenes.threeSorts();
        for (int sort = 0; sort < 3; sort++) {
            due("of several SIZES the least", x.now(sort, 0), sort);
        }
        x.ask(0, 10);
        x.ask(1, 0);
        due("LOST is its WORTH: none", x.now(0, 0), NONE);
        x.ask(1, 1);
        due("LOST is less: a box", x.now(0, 0), 0);
        ThreeSizes y = Scenes.scarce();
        y.rule(0, 1, 0);
        due("none makes it greater", y.now(0, 1), NONE);
        due("by LEAST", y.value(0, 2), 26000000);
        due("BEST", y.best(2), 38000000);
        due("of 0 HOURS", y.best(0), 0);
        // with the one box what the other HOUR brings is just the WORTH of the small one
        ThreeSizes z = new ThreeSizes();
        Scenes.boxes(z, 0, 0, 1);
        z.size(2, 2, 0);
        z.sort(0, 0, 25, 0);
        z.sort(2, 50, 50, 0);
        due("as much with none: none", z.now(0, 1), NONE);
        due("with no HOUR to come", z.now(0, 0), 2);
    }

    static void run() {
        fetching();
        coming();
        boxOrNone();
        state();
        rules();
        least();
        keep();
        some();
        great();
        even();
        wise();
        lost();
        value();
        fetchedOrNot();
        cut();
        best();
    }
}
