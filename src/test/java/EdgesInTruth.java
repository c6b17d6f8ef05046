/** Terms, third part, and promises 39 to 44: hours that go by, what is kept and what is told, sentence by sentence. */
final class EdgesInTruth {
    private static final int NONE = ThreeSizes.NONE;

    private EdgesInTruth() {
    }

    private static void due(String call, long got, long want) {
        Check.due(call, got, want);
    }

    private static void fetched() {
        Doc.quote(Doc.TERMS, "IN TRUTH: an HOUR by draws: for each SIZE with a FULL box a DRAW below 10: fetched, if below GOES;");
        for (int goes = 0; goes <= 10; goes++) {
            for (int drawn = 0; drawn < 10; drawn++) {
                ThreeSizes x = Scenes.oneFullBox();
                x.size(0, 2, goes);
                x.rule(0, 3, 99);
                x.seed(Scenes.seedFor(10, drawn));
                x.go(0, 1);
                due("GOES " + goes + ", drawn " + drawn, x.day(4), drawn < goes ? 1 : 0);
            }
        }
        for (int full = 0; full < 8; full++) {
            ThreeSizes x = new ThreeSizes();
            Scenes.full(x, full & 1, full >> 1 & 1, full >> 2);
            x.rule(0, 1, 0);
            x.go(0, 1);
            due("so many draws, FULL " + full, x.status(8), Scenes.seedAfter(1, Integer.bitCount(full) + 1));
        }
        ThreeSizes y = new ThreeSizes();
        Scenes.full(y, 2, 0, 0);
        y.size(0, 2, 0);
        y.rule(0, 1, 0);
        y.go(0, 1);
        due("two FULL ones of a SIZE, GOES 0: one draw still", y.status(8), Scenes.seedAfter(1, 2));
    }

    /** No boxes; SORTS by 30, 0, 20, worth 11, 12, 14, back 1, 2, 4; NEAR 5, WAY 10. */
    private static ThreeSizes nothingFree() {
        ThreeSizes x = new ThreeSizes();
        Scenes.boxes(x, 0, 0, 0);
        x.sort(0, 30, 11, 1);
        x.sort(1, 0, 12, 2);
        x.sort(2, 20, 14, 4);
        x.ask(0, 5);
        x.ask(1, 10);
        x.rule(0, 1, 0);
        return x;
    }

    private static void whichSort() {
        Doc.quote(Doc.TERMS, "then a DRAW below 100: the SORT in whose hundredths, SORTS one after the other, it lies, or none;");
        int[][] drawnAndBrought = {{0, -1}, {29, -1}, {30, -4}, {49, -4}, {50, 0}, {99, 0}};
        for (int[] c : drawnAndBrought) {
            ThreeSizes x = nothingFree();
            x.ask(0, 0);
            x.seed(Scenes.seedFor(100, c[0]));
            int seed = x.status(8);
            due("drawn " + c[0], x.go(0, 1), c[1]);
            due("draws", x.status(8), Scenes.seedAfter(seed, c[1] == 0 ? 1 : 2));
        }
        ThreeSizes none = new ThreeSizes();
        none.rule(0, 1, 0);
        due("no SORTS", none.go(0, 200), 0);
        due("a draw an HOUR all the same", none.status(8), Scenes.seedAfter(1, 200));
    }

    private static void nearOrBack() {
        Doc.quote(Doc.TERMS, "by a RULE it gets a box; else a DRAW below 10: NEAR, if below that: WORTH less WAY is taken; else it costs BACK.");
        for (int near = 0; near <= 10; near++) {
            for (int drawn = 0; drawn < 10; drawn++) {
                ThreeSizes x = nothingFree();
                x.ask(0, near);
                x.seed(Scenes.seedFor(100, 30, 10, drawn));
                boolean isNear = drawn < near;
                due("NEAR " + near + ", drawn " + drawn, x.go(0, 1), isNear ? 4 : -4);
                due("went near", x.day(2), isNear ? 1 : 0);
                due("went back", x.day(3), isNear ? 0 : 1);
            }
        }
        ThreeSizes x = Scenes.oneBox();
        x.rule(0, 1, 0);
        due("by a RULE it gets a box", x.go(0, 1), 10);
        due("with no draw more", x.status(8), Scenes.seedAfter(1, 1));
        ThreeSizes y = Scenes.oneBox();
        y.rule(0, 3, 11);
        due("by another it gets none", y.go(0, 1), -5);
        due("with a draw more", y.status(8), Scenes.seedAfter(1, 2));
    }

    private static void draws() {
        Doc.quote(Doc.TERMS, "A DRAW below n: SEED (1 at first) becomes SEED times 1103515245, and 12345 (an int, wrapping); its upper 16 bits, no sign, modulo n.");
        ThreeSizes x = new ThreeSizes();
        due("SEED at first", x.status(8), 1);
        x.rule(0, 1, 0);
        x.go(0, 1);
        due("behind the first", x.status(8), 1103527590);
        // 1103527590 times 1103515245 and 12345 is far past 32 bits
        x.go(0, 1);
        due("behind the second: wrapped", x.status(8), (int) (1103527590L * 1103515245L + 12345L));
        int[] seeds = {0, -1, Integer.MAX_VALUE, Integer.MIN_VALUE, 2, 3, 5, 8, 13, 21, 34};
        boolean above = false;
        for (int seed : seeds) {
            int next = (int) (seed * 1103515245L + 12345L);
            above |= next < 0;
            int upper = (int) ((next & 0xffffffffL) >> 16);
            ThreeSizes y = new ThreeSizes();
            y.sort(0, upper % 100 + 1, 7, 5);
            y.rule(0, 1, 0);
            y.seed(seed);
            due("SEED " + seed + ": its hundredth", y.go(0, 1), 7);
            ThreeSizes z = new ThreeSizes();
            z.sort(0, upper % 100, 7, 5);
            z.rule(0, 1, 0);
            z.seed(seed);
            due("SEED " + seed + ": the one ahead", z.go(0, 1), 0);
            due("SEED behind " + seed, z.status(8), next);
        }
        Check.isTrue("some have a sign", above);
    }

    private static void go() {
        Doc.quote(39, "n HOURS (1 to 200) go by in truth by the RULE in SHELF s: what they brought (may be below 0).");
        Check.bounds(Scenes::busy, "go(2, v)", 1, 200, (x, v) -> x.go(2, v), Check.BELOW);
        for (int s = 0; s < 8; s++) {
            ThreeSizes x = nothingFree();
            x.rule(s, 1, 0);
            x.sort(0, 50, 1, 99);
            x.ask(0, 0);
            int brought = x.go(s, 200);
            due("by SHELF " + s, brought, x.day(5));
            due("200 HOURS", x.day(0), 200);
        }
        ThreeSizes lossy = Scenes.oneFullBox();
        lossy.rule(0, 3, 99);
        due("below 0", lossy.go(0, 200), -1000);
        ThreeSizes most = new ThreeSizes();
        most.sort(0, 100, 1, 99);
        most.rule(0, 3, 99);
        due("the least there can be", most.go(0, 200), -19800);
    }

    private static void goRefused() {
        Doc.quote(39, "-1000002; -1000003; -1000004 (counted as BAD and so on).");
        Check.bounds(EdgesInTruth::eightRules, "go(v, 1)", 0, 7, (x, v) -> x.go(v, 1), Check.BELOW);
        int[][] cases = {{0, 1, Check.OTHER}, {6, 200, Check.OTHER}, {3, 1, Check.NOTHING}, {7, 200, Check.NOTHING},
            {0, 0, Check.BAD}, {0, 201, Check.BAD}, {3, 0, Check.BAD}, {3, 201, Check.BAD}, {8, 0, Check.BAD}};
        for (int[] c : cases) {
            Check.refuses(Scenes::busy, "go(" + c[0] + ", " + c[1] + ")", x -> x.go(c[0], c[1]), Check.BELOW, c[2]);
        }
    }

    private static ThreeSizes eightRules() {
        ThreeSizes x = Scenes.oneBox();
        for (int s = 0; s < 8; s++) {
            x.rule(s, 1, s);
        }
        return x;
    }

    private static void day() {
        Doc.quote(40, "So far in truth: HOURS (0), parcels that got a box (1), that went NEAR (2), that went back (3), boxes fetched (4), taken less paid (5; may be below 0).");
        ThreeSizes x = Scenes.oneBox();
        x.rule(0, 1, 0);
        for (int what = 0; what < 6; what++) {
            due("at first", x.day(what), 0);
        }
        x.size(0, 2, 0);
        x.go(0, 1);
        dayIs(x, 1, 1, 0, 0, 0, 10);
        x.go(0, 2);
        dayIs(x, 3, 1, 0, 2, 0, 0);
        x.go(0, 1);
        dayIs(x, 4, 1, 0, 3, 0, -5);
        x.ask(0, 10);
        x.ask(1, 99);
        x.go(0, 1);
        dayIs(x, 5, 1, 1, 3, 0, -94);
        x.size(0, 2, 10);
        x.go(0, 2);
        dayIs(x, 7, 3, 1, 3, 2, -74);
        Doc.quote(40, "-1000002 (counted as BAD).");
        Check.bounds(Scenes::busy, "day(v)", 0, 5, (y, v) -> y.day(v), Check.BELOW);
    }

    private static void dayIs(ThreeSizes x, int... want) {
        for (int what = 0; what < want.length; what++) {
            due("day(" + what + ") after " + want[0] + " HOURS", x.day(what), want[what]);
        }
    }

    private static void seed() {
        Doc.quote(41, "SEED becomes v: the one ahead.");
        ThreeSizes x = new ThreeSizes();
        int ahead = 1;
        for (int v : new int[] {0, -1, Integer.MAX_VALUE, Integer.MIN_VALUE, 1}) {
            due("the one ahead of " + v, x.seed(v), ahead);
            due("SEED", x.status(8), v);
            ahead = v;
        }
        due("none is refused", x.status(12), 0);
    }

    private static void image() {
        Doc.quote(42, "All is kept, but THE TAPE, SHELVES and REFUSALS in status(): 1.");
        ThreeSizes x = Scenes.busy();
        String wall = wallWithoutTape(x);
        due("image", x.image(), 1);
        x.wipe();
        x.row(7, 1, 2);
        x.rule(0, 4, 44);
        x.state(3);
        String shelves = Check.toldOfShelves(x);
        int[] refusals = Check.refusals(x);
        x.feed(1, 2);
        changeAll(x);
        due("back", x.back(), 1);
        Check.same("the wall as it was", wallWithoutTape(x), wall);
        Check.same("SHELVES as they are", Check.toldOfShelves(x), shelves);
        Check.same("REFUSALS as they are", java.util.Arrays.toString(Check.refusals(x)), java.util.Arrays.toString(refusals));
        due("THE TAPE as it is", x.status(7), 2);
        ThreeSizes y = new ThreeSizes();
        due("of a new object", y.image(), 1);
        due("and at once back", y.back(), 1);
    }

    private static void changeAll(ThreeSizes x) {
        Scenes.full(x, 0, 0, 0);
        Scenes.boxes(x, 4, 3, 0);
        Scenes.goes(x, 9, 9, 9);
        x.sort(0, 1, 1, 1);
        x.sort(0, 1, 1, 1);
        x.ask(0, 9);
        x.ask(1, 9);
        x.go(2, 33);
        x.seed(9);
    }

    /** status(7), THE TAPE's size, and status(9), SHELVES in use, are not the wall's. */
    private static String wallWithoutTape(ThreeSizes x) {
        return Check.toldOfWall(x).replaceFirst("^(status( -?\\d+){7}) -?\\d+( -?\\d+) -?\\d+", "$1 .$3 .");
    }

    private static void back() {
        Doc.quote(43, "All is again as it was kept: 1.");
        ThreeSizes x = new ThreeSizes();
        x.rule(2, 1, 0);
        String fresh = wallWithoutTape(x);
        x.image();
        for (int round = 0; round < 3; round++) {
            changeAll(x);
            due("back, time after time", x.back(), 1);
            Check.same("as it was at first", wallWithoutTape(x), fresh);
        }
        x.ask(0, 7);
        due("a later image", x.image(), 1);
        changeAll(x);
        x.back();
        due("takes its place", x.status(10), 7);
        due("the rest of it, too", x.status(0), 0);
        Doc.quote(43, "STUCK: nothing was.");
        Check.refuses(ThreeSizes::new, "a new object", ThreeSizes::back, Check.STUCK);
        Check.refuses(Scenes::crowded, "a used one", ThreeSizes::back, Check.STUCK);
        ThreeSizes y = new ThreeSizes();
        y.back();
        due("what is kept later can be had", y.image() * 10 + y.back(), 11);
    }

    private static void status() {
        Doc.quote(44, "SORTS (0), BOXES of SIZES 0 to 2 (1, 2, 3), FULL ones likewise (4, 5, 6), THE TAPE's size (7), SEED (8), SHELVES that hold something (9), NEAR (10), WAY (11);");
        int[] fresh = {0, 2, 2, 2, 0, 0, 0, 0, 1, 0, 0, 5};
        ThreeSizes x = new ThreeSizes();
        for (int what = 0; what < 12; what++) {
            due("at first status(" + what + ")", x.status(what), fresh[what]);
        }
        int[] crowded = {6, 2, 2, 2, 2, 2, 2, 200, 1, 1, 0, 5};
        ThreeSizes y = Scenes.crowded();
        for (int what = 0; what < 12; what++) {
            due("crowded: status(" + what + ")", y.status(what), crowded[what]);
        }
        int[] busy = {4, 3, 2, 4, 1, 2, 1, 8, -1, 6, 4, 6};
        ThreeSizes z = Scenes.busy();
        z.seed(-1);
        for (int what = 0; what < 12; what++) {
            due("busy: status(" + what + ")", z.status(what), busy[what]);
        }
        Doc.quote(44, "12 to 16: REFUSALS -2 to -6. NONE another what.");
        // as Scenes.busy refused them
        int[] refused = {3, 1, 2, 1, 1};
        for (int i = 0; i < 5; i++) {
            due("busy: status(" + (12 + i) + ")", z.status(12 + i), refused[i]);
            due("none at first", x.status(12 + i), 0);
        }
        for (int what : new int[] {-1, 17, Integer.MIN_VALUE, Integer.MAX_VALUE}) {
            Check.onlyAsks(Scenes::busy, "status(" + what + ")", w -> w.status(what));
            due("another what", x.status(what), NONE);
        }
    }

    static void run() {
        fetched();
        whichSort();
        nearOrBack();
        draws();
        go();
        goRefused();
        day();
        seed();
        image();
        back();
        status();
    }
}
