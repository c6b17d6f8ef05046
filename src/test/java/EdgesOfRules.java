/** Promises 18 to 25: what RULES give and bring, sentence by sentence. */
final class EdgesOfRules {
    private static final int NONE = ThreeSizes.NONE;

    private EdgesOfRules() {
    }

    private static void due(String call, long got, long want) {
        Check.due(call, got, want);
    }

    private static ThreeSizes eightRules() {
        ThreeSizes x = Scenes.threeSorts();
        for (int s = 0; s < 8; s++) {
            x.rule(s, 1, s);
        }
        return x;
    }

    private static void gets() {
        Doc.quote(18, "The SIZE a SORT would get in a STATE (told as above, each FREE from 0 to BOXES) by the RULE in SHELF s; NONE.");
        Check.bounds(EdgesOfRules::eightRules, "gets(v, 0, 0)", 0, 7, (x, v) -> x.gets(v, 0, 0));
        Check.bounds(Scenes::busy, "gets(2, v, 0)", 0, 3, (x, v) -> x.gets(2, v, 0));
        Check.refuses(EdgesOfRules::ruleOnly, "no SORTS", x -> x.gets(0, 0, 0), Check.BAD);
        // BOXES 3 2 4: STATES 0 to 113, but not all between
        Check.bounds(Scenes::busy, "gets(2, 0, v)", 0, 3 + 10 + 100, (x, v) -> x.gets(2, 0, v));
        for (int state = 0; state < 125; state++) {
            int told = state;
            boolean is = state % 5 <= 3 && state / 5 % 5 <= 2;
            if (is) {
                Check.taken(Scenes::busy, "STATE " + state, x -> x.gets(2, 0, told));
            } else {
                due("no STATE " + state, Scenes.busy().gets(2, 0, state), Check.BAD);
            }
        }
        Check.refuses(Scenes::busy, "four small ones of three", x -> x.gets(2, 0, 4), Check.BAD);
        Check.refuses(Scenes::busy, "three middle ones of two", x -> x.gets(2, 0, 15), Check.BAD);
        Check.refuses(Scenes::busy, "125", x -> x.gets(2, 0, 125), Check.BAD);
        for (int size = 0; size < 3; size++) {
            int step = new int[] {1, 5, 25}[size];
            Check.taken(EdgesOfRules::eightRules, "two of two of SIZE " + size, x -> x.gets(0, 0, 2 * step));
            Check.refuses(EdgesOfRules::eightRules, "three of two of SIZE " + size, x -> x.gets(0, 0, 3 * step), Check.BAD);
        }
        ThreeSizes all = eightRules();
        Scenes.boxes(all, 4, 4, 4);
        due("all boxes", all.gets(0, 0, 124), 0);
        Scenes.boxes(all, 0, 0, 0);
        due("no boxes", all.gets(0, 0, 0), NONE);
        due("no box any more", all.gets(0, 0, 1), Check.BAD);
        ThreeSizes x = eightRules();
        Scenes.full(x, 2, 2, 2);
        due("a STATE with more FREE than now", x.gets(0, 0, 62), 0);
        due("now", x.gets(0, 0, 0), NONE);
        due("the largest only", x.gets(0, 0, 25), 2);
    }

    private static ThreeSizes ruleOnly() {
        ThreeSizes x = new ThreeSizes();
        x.rule(0, 1, 0);
        return x;
    }

    private static void getsRefused() {
        Doc.quote(18, "BAD; OTHER; NOTHING.");
        // SHELF 0 holds a ROW, SHELF 3 NOTHING
        int[][] cases = {{0, 0, 0, Check.OTHER}, {6, 3, 113, Check.OTHER}, {3, 0, 0, Check.NOTHING}, {7, 3, 113, Check.NOTHING},
            {0, 4, 0, Check.BAD}, {0, -1, 0, Check.BAD}, {0, 0, 4, Check.BAD}, {0, 0, 125, Check.BAD}, {0, 0, -1, Check.BAD},
            {3, 4, 0, Check.BAD}, {3, -1, 0, Check.BAD}, {3, 0, 4, Check.BAD}, {3, 0, 125, Check.BAD}, {8, 4, 125, Check.BAD}};
        for (int[] c : cases) {
            String call = "gets(" + c[0] + ", " + c[1] + ", " + c[2] + ")";
            Check.refuses(Scenes::busy, call, x -> x.gets(c[0], c[1], c[2]), c[3]);
        }
    }

    private static void lost() {
        Doc.quote(19, "LOST of a SORT. -1000000000002 (counted as BAD).");
        Check.bounds(Scenes::busy, "lost(v)", 0, 3, (x, v) -> x.lost(v), Check.FAR);
        Check.bounds(Scenes::crowded, "lost(v)", 0, 5, (x, v) -> x.lost(v), Check.FAR);
        Check.refuses(ThreeSizes::new, "no SORTS", x -> x.lost(0), Check.FAR, Check.BAD);
        ThreeSizes x = new ThreeSizes();
        x.sort(0, 0, 1, 99);
        x.sort(0, 0, 99, 0);
        due("the first: all back", x.lost(0), -99000000);
        due("the last: none back", x.lost(1), 0);
        x.ask(0, 10);
        x.ask(1, 99);
        due("the first: all near, far away", x.lost(0), -98000000);
        x.ask(1, 0);
        due("the last: all near, no way", x.lost(1), 99000000);
    }

    private static void value() {
        Doc.quote(20, "VALUE of n HOURS in THE STATE by the RULE in SHELF s. -1000000000002; -1000000000003; -1000000000004.");
        Check.bounds(EdgesOfRules::eightRules, "value(v, 1)", 0, 7, (x, v) -> x.value(v, 1), Check.FAR);
        Check.bounds(Scenes::busy, "value(2, v)", 0, 24, (x, v) -> x.value(2, v), Check.FAR);
        ruleRefused("value", (x, s, n) -> x.value(s, n));
        ThreeSizes x = Scenes.oneBox();
        x.rule(7, 1, 0);
        due("in THE STATE: FREE", x.value(7, 1), 10000000);
        x.size(0, 1, 1);
        due("in THE STATE: FULL", x.value(7, 1), -500000);
        due("0 HOURS", x.value(7, 0), 0);
        x.size(0, 2, 10);
        due("24 HOURS", x.value(7, 24), 240000000);
        Check.onlyAsks(Scenes::busy, "value", y -> y.value(5, 24));
    }

    private interface OfRule {
        long on(ThreeSizes x, int s, int n);
    }

    private static void ruleRefused(String name, OfRule call) {
        int[][] cases = {{0, 0, Check.OTHER}, {6, 24, Check.OTHER}, {3, 0, Check.NOTHING}, {7, 24, Check.NOTHING},
            {0, -1, Check.BAD}, {0, 25, Check.BAD}, {3, -1, Check.BAD}, {3, 25, Check.BAD}, {8, 25, Check.BAD}, {-1, 0, Check.BAD}};
        for (int[] c : cases) {
            String told = name + "(" + c[0] + ", " + c[1] + ")";
            Check.refuses(Scenes::busy, told, x -> call.on(x, c[0], c[1]), Check.FAR, c[2]);
        }
    }

    private static void best() {
        Doc.quote(21, "BEST of n HOURS in THE STATE. -1000000000002.");
        Check.bounds(Scenes::busy, "best(v)", 0, 24, (x, v) -> x.best(v), Check.FAR);
        ThreeSizes x = Scenes.oneBox();
        due("0 HOURS", x.best(0), 0);
        due("in THE STATE: FREE", x.best(1), 10000000);
        x.size(0, 1, 1);
        due("in THE STATE: FULL", x.best(1), -500000);
        x.size(0, 2, 10);
        due("24 HOURS", x.best(24), 240000000);
        due("no SORTS", new ThreeSizes().best(24), 0);
        Check.onlyAsks(Scenes::busy, "best", y -> y.best(24));
    }

    private static void now() {
        Doc.quote(22, "What a SORT gets by BEST with n HOURS to come behind it, in THE STATE; NONE. BAD.");
        Check.bounds(Scenes::busy, "now(v, 1)", 0, 3, (x, v) -> x.now(v, 1));
        Check.bounds(Scenes::busy, "now(0, v)", 0, 24, (x, v) -> x.now(0, v));
        Check.refuses(ThreeSizes::new, "no SORTS", x -> x.now(0, 0), Check.BAD);
        ThreeSizes x = Scenes.scarce();
        due("no HOURS behind it", x.now(0, 0), 2);
        due("one HOUR behind it", x.now(0, 1), NONE);
        due("24 HOURS behind it", x.now(0, 24), NONE);
        due("what the box is for", x.now(1, 24), 2);
        x.size(2, 1, 1);
        due("nothing FREE in THE STATE", x.now(1, 0), NONE);
        Check.onlyAsks(Scenes::busy, "now", y -> y.now(1, 24));
    }

    private static void gap() {
        Doc.quote(23, "How far VALUE by the RULE in SHELF s is below BEST. -1000000000002; -1000000000003; -1000000000004.");
        Check.bounds(EdgesOfRules::eightRules, "gap(v, 1)", 0, 7, (x, v) -> x.gap(v, 1), Check.FAR);
        Check.bounds(Scenes::busy, "gap(2, v)", 0, 24, (x, v) -> x.gap(2, v), Check.FAR);
        ruleRefused("gap", (x, s, n) -> x.gap(s, n));
        ThreeSizes x = Scenes.scarce();
        x.rule(0, 1, 0);
        x.rule(1, 3, 99);
        due("no HOURS", x.gap(0, 0), 0);
        due("as good as BEST", x.gap(0, 1), 0);
        due("two HOURS", x.gap(0, 2), 12000000);
        due("all are lost", x.gap(1, 2), 38000000);
        Check.onlyAsks(Scenes::busy, "gap", y -> y.gap(5, 24));
    }

    private static void head() {
        Doc.quote(24, "The SHELF with the RULE of the greatest VALUE of n HOURS, of several the first.");
        Check.bounds(Scenes::busy, "head(v)", 0, 24, (x, v) -> x.head(v));
        ThreeSizes x = Scenes.scarce();
        x.rule(7, 3, 99);
        due("the only one, in the last SHELF", x.head(24), 7);
        x.rule(4, 6, 1);
        x.rule(3, 1, 0);
        due("no HOURS: the first of all", x.head(0), 3);
        due("one HOUR: LEAST", x.head(1), 3);
        due("two HOURS: WISE", x.head(2), 4);
        x.rule(0, 2, 1);
        due("two HOURS: a KEEP as good, ahead of it", x.head(2), 0);
        x.row(0, 2, 4);
        due("a ROW there", x.head(2), 4);
        ThreeSizes lossy = new ThreeSizes();
        Scenes.boxes(lossy, 0, 0, 0);
        lossy.sort(0, 100, 1, 99);
        lossy.rule(5, 1, 0);
        lossy.rule(6, 4, 0);
        due("all below 0: the first", lossy.head(24), 5);
        Check.onlyAsks(Scenes::busy, "head", y -> y.head(24));
        Doc.quote(24, "BAD; STUCK: none holds a RULE.");
        Check.refuses(ThreeSizes::new, "NOTHING", y -> y.head(1), Check.STUCK);
        Check.refuses(EdgesOfRules::rowsOnly, "ROWS alone", y -> y.head(1), Check.STUCK);
        Check.refuses(EdgesOfRules::rowsOnly, "BAD ahead", y -> y.head(25), Check.BAD);
        Check.refuses(EdgesOfRules::rowsOnly, "BAD ahead", y -> y.head(-1), Check.BAD);
    }

    private static ThreeSizes rowsOnly() {
        ThreeSizes x = Scenes.threeSorts();
        for (int s = 0; s < 8; s++) {
            x.row(s, s % 5, 2);
        }
        return x;
    }

    private static void keep() {
        Doc.quote(25, "The a (0 to 4) by which a KEEP is of the greatest VALUE of n HOURS, of several the least. BAD.");
        Check.bounds(Scenes::busy, "keep(v)", 0, 24, (x, v) -> x.keep(v));
        due("no HOURS", Scenes.scarce().keep(0), 0);
        due("no SORTS", new ThreeSizes().keep(24), 0);
        due("one HOUR: nothing need be kept", Scenes.scarce().keep(1), 0);
        // with so many large boxes, none of them fetched, all are kept for large ones when there are HOURS enough
        for (int boxes = 1; boxes <= 4; boxes++) {
            ThreeSizes x = Scenes.scarce();
            x.size(2, 0, boxes);
            due(boxes + " boxes", x.keep(24), boxes);
        }
        ThreeSizes lossy = new ThreeSizes();
        Scenes.boxes(lossy, 0, 0, 0);
        lossy.sort(0, 100, 1, 99);
        due("all below 0: the least", lossy.keep(24), 0);
        // one large box, never fetched; large parcels cost much if they go back: all below 0, by 0 the most so
        ThreeSizes dear = new ThreeSizes();
        Scenes.boxes(dear, 0, 0, 1);
        dear.size(2, 2, 0);
        dear.sort(0, 50, 2, 0);
        dear.sort(2, 50, 50, 99);
        Check.isTrue("all below 0", dear.best(24) < 0);
        due("all below 0, the others more so", dear.keep(24), 1);
        Check.onlyAsks(Scenes::busy, "keep", x -> x.keep(24));
    }

    static void run() {
        gets();
        getsRefused();
        lost();
        value();
        best();
        now();
        gap();
        head();
        keep();
    }
}
