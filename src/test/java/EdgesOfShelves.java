/** Promises 1 to 8: a new object, and what SHELVES hold, sentence by sentence. */
final class EdgesOfShelves {
    private static final int NONE = ThreeSizes.NONE;

    private EdgesOfShelves() {
    }

    private static void due(String call, long got, long want) {
        Check.due(call, got, want);
    }

    private static void newObject() {
        Doc.quote(1, "No SORTS; SHELVES hold NOTHING; THE TAPE is empty.");
        ThreeSizes x = new ThreeSizes();
        due("SORTS", x.status(0), 0);
        due("SHELVES that hold something", x.status(9), 0);
        due("THE TAPE's size", x.status(7), 0);
        due("no SORT 0", x.sortOf(0, 0), Check.BAD);
        due("THE TAPE ends too early", x.wall(), -20);
        for (int s = 0; s < 8; s++) {
            due("NOTHING", x.holds(s), NONE);
            due("NOTHING to be set", x.set(s, 0, 0), Check.NOTHING);
        }
        ThreeSizes other = new ThreeSizes();
        x.sort(0, 1, 1, 1);
        x.row(0, 0, 1);
        x.feed(0, 1);
        due("another object has none of it", other.status(0) + other.status(7) + other.status(9) + other.status(12), 0);
    }

    private static void row() {
        Doc.quote(2, "SHELF s holds a new ROW: 1. BAD.");
        Check.bounds(Scenes::busy, "row(v, 0, 1)", 0, 7, (x, v) -> x.row(v, 0, 1));
        Check.bounds(Scenes::busy, "row(0, v, 1)", 0, 4, (x, v) -> x.row(0, v, 1));
        Check.bounds(Scenes::busy, "row(0, 0, v)", 0, 40, (x, v) -> x.row(0, 0, v));
        ThreeSizes x = new ThreeSizes();
        due("of none", x.row(0, 3, 0), 1);
        due("has none", x.set(0, 0, 1), Check.BAD);
        due("of one", x.row(0, 3, 1), 1);
        due("has one", x.set(0, 0, 7), 1);
        due("not two", x.set(0, 1, 7), Check.BAD);
        due("a new one of the same", x.row(0, 3, 1) + x.element(0, 0), 1);
        due("of forty", x.row(0, 3, 40), 1);
        due("has forty", x.set(0, 39, 7), 1);
        due("not forty-one", x.set(0, 40, 7), Check.BAD);
        x.rule(0, 1, 1);
        due("over a RULE", x.row(0, 4, 2) * 10 + x.holds(0), 14);
    }

    private static void set() {
        Doc.quote(3, "Element i of the ROW in SHELF s becomes v: 1.");
        ThreeSizes x = new ThreeSizes();
        Scenes.fill(x, 7, 5, 6, 7);
        for (int i = 0; i < 3; i++) {
            due("set", x.set(7, i, -i), 1);
            due("element", x.element(7, i), -i);
            due("the next one stays", x.element(7, i + 1), i == 2 ? 0 : 6 + i);
        }
        Doc.quote(3, "BAD SHELF; OTHER; NOTHING; BAD i.");
        Check.bounds(EdgesOfShelves::eightRows, "set(v, 0, 1)", 0, 7, (y, v) -> y.set(v, 0, 1));
        Check.bounds(Scenes::busy, "set(0, v, 1)", 0, 7, (y, v) -> y.set(0, v, 1));
        Check.bounds(Scenes::busy, "set(4, v, 1)", 0, 2, (y, v) -> y.set(4, v, 1));
        int[][] cases = {{8, 0, Check.BAD}, {8, -1, Check.BAD}, {-1, 0, Check.BAD}, {2, 0, Check.OTHER}, {2, -1, Check.OTHER},
            {2, 40, Check.OTHER}, {3, 0, Check.NOTHING}, {3, -1, Check.NOTHING}, {3, 40, Check.NOTHING}, {6, 0, Check.BAD}};
        for (int[] c : cases) {
            Check.refuses(Scenes::busy, "set(" + c[0] + ", " + c[1] + ", 1)", y -> y.set(c[0], c[1], 1), c[2]);
        }
    }

    private static ThreeSizes eightRows() {
        ThreeSizes x = new ThreeSizes();
        for (int s = 0; s < 8; s++) {
            x.row(s, 2, 4);
        }
        return x;
    }

    /** 1 to 6 in SHELF 0 and 11 to 14 in SHELF 1. */
    private static ThreeSizes twoRows() {
        ThreeSizes x = new ThreeSizes();
        Scenes.fill(x, 0, 1, 2, 3, 4, 5, 6);
        Scenes.fill(x, 1, 11, 12, 13, 14);
        return x;
    }

    private static void rowIs(ThreeSizes x, int s, long... want) {
        for (int i = 0; i < want.length; i++) {
            due("element " + i + " of SHELF " + s, x.element(s, i), want[i]);
        }
    }

    private static void copy() {
        Doc.quote(4, "n elements of the ROW in SHELF p from place i on come to places j on of that in q (as they were): n.");
        ThreeSizes x = twoRows();
        due("all of one", x.copy(1, 0, 0, 2, 4), 4);
        rowIs(x, 0, 1, 2, 11, 12, 13, 14);
        x = twoRows();
        due("none", x.copy(0, 1, 0, 0, 0), 0);
        due("none at both ends", x.copy(0, 1, 6, 4, 0), 0);
        rowIs(x, 1, 11, 12, 13, 14);
        due("the last to the last", x.copy(0, 1, 5, 3, 1), 1);
        rowIs(x, 1, 11, 12, 13, 6);
        x = twoRows();
        due("up within a ROW", x.copy(0, 0, 0, 1, 5), 5);
        rowIs(x, 0, 1, 1, 2, 3, 4, 5);
        x = twoRows();
        due("down within a ROW", x.copy(0, 0, 1, 0, 5), 5);
        rowIs(x, 0, 2, 3, 4, 5, 6, 6);
        x = twoRows();
        due("onto itself", x.copy(0, 0, 0, 0, 6), 6);
        rowIs(x, 0, 1, 2, 3, 4, 5, 6);
        for (int sort = 0; sort < 5; sort++) {
            ThreeSizes y = new ThreeSizes();
            Scenes.row(y, 0, sort, 1, 0, 1);
            y.row(7, sort, 3);
            due("ROWS of SORT " + sort, y.copy(0, 7, 0, 0, 3), 3);
            rowIs(y, 7, 1, 0, 1);
        }
    }

    private static void copyRefused() {
        Doc.quote(4, "BAD SHELVES; OTHER (also ROWS of two SORTS of rows, if both hold something); NOTHING; BAD the others.");
        Check.bounds(EdgesOfShelves::eightRows, "copy(v, 0, 0, 0, 1)", 0, 7, (x, v) -> x.copy(v, 0, 0, 0, 1));
        Check.bounds(EdgesOfShelves::eightRows, "copy(0, v, 0, 0, 1)", 0, 7, (x, v) -> x.copy(0, v, 0, 0, 1));
        Check.bounds(EdgesOfShelves::twoRows, "copy(0, 1, v, 0, 2)", 0, 4, (x, v) -> x.copy(0, 1, v, 0, 2));
        Check.bounds(EdgesOfShelves::twoRows, "copy(0, 1, 0, v, 2)", 0, 2, (x, v) -> x.copy(0, 1, 0, v, 2));
        Check.bounds(EdgesOfShelves::twoRows, "copy(0, 1, 0, 0, v)", 0, 4, (x, v) -> x.copy(0, 1, 0, 0, v));
        Check.bounds(EdgesOfShelves::twoRows, "copy(1, 0, 1, 0, v)", 0, 3, (x, v) -> x.copy(1, 0, 1, 0, v));
        Check.bounds(EdgesOfShelves::twoRows, "copy(0, 1, v, 0, 0)", 0, 6, (x, v) -> x.copy(0, 1, v, 0, 0));
        Check.bounds(EdgesOfShelves::twoRows, "copy(0, 1, 0, v, 0)", 0, 4, (x, v) -> x.copy(0, 1, 0, v, 0));
        // a busy wall: 0 longs, 1 ints, 2 KEEP, 3 NOTHING, 4 booleans, 5 WISE, 6 longs (none), 7 NOTHING
        int[][] cases = {{8, 2, 0, Check.BAD}, {2, 8, 0, Check.BAD}, {8, 3, 0, Check.BAD}, {3, -1, 0, Check.BAD}, {0, 8, -1, Check.BAD},
            {2, 0, -1, Check.OTHER}, {0, 2, -1, Check.OTHER}, {2, 5, 0, Check.OTHER}, {2, 2, 0, Check.OTHER},
            {2, 3, 0, Check.OTHER}, {3, 2, 0, Check.OTHER}, {0, 1, 1, Check.OTHER}, {1, 0, -1, Check.OTHER},
            {4, 0, 41, Check.OTHER}, {6, 1, 1, Check.OTHER},
            {3, 0, 1, Check.NOTHING}, {0, 3, -1, Check.NOTHING}, {3, 7, 1, Check.NOTHING}, {3, 3, 0, Check.NOTHING},
            {4, 3, 41, Check.NOTHING}, {6, 0, 1, Check.BAD}, {0, 6, 1, Check.BAD}};
        for (int[] c : cases) {
            String call = "copy(" + c[0] + ", " + c[1] + ", 0, 0, " + c[2] + ")";
            Check.refuses(Scenes::busy, call, x -> x.copy(c[0], c[1], 0, 0, c[2]), c[3]);
        }
        Check.refuses(EdgesOfShelves::twoRows, "far i and far n", x -> x.copy(0, 1, Integer.MAX_VALUE, 0, Integer.MAX_VALUE), Check.BAD);
        Check.refuses(EdgesOfShelves::twoRows, "n that would wrap around", x -> x.copy(0, 1, 1, 0, Integer.MAX_VALUE), Check.BAD);
        Check.refuses(EdgesOfShelves::twoRows, "j that would wrap around", x -> x.copy(0, 1, 0, Integer.MAX_VALUE, 1), Check.BAD);
    }

    private static void element() {
        Doc.quote(5, "Element i of the ROW; 0: none, no ROW (nothing is refused).");
        ThreeSizes x = Scenes.busy();
        rowIs(x, 0, 0, 1, 2, 3, 0, 1, 2, 9);
        int[][] none = {{0, 8}, {0, -1}, {0, Integer.MAX_VALUE}, {0, Integer.MIN_VALUE}, {4, 3}, {6, 0}, {2, 0}, {3, 0}, {8, 0},
            {-1, 0}, {Integer.MAX_VALUE, 0}, {Integer.MIN_VALUE, 0}, {8, -1}};
        for (int[] c : none) {
            String call = "element(" + c[0] + ", " + c[1] + ")";
            due(call, Scenes.busy().element(c[0], c[1]), 0);
            Check.onlyAsks(Scenes::busy, call, y -> y.element(c[0], c[1]));
        }
        ThreeSizes y = new ThreeSizes();
        y.row(7, 3, 40);
        y.set(7, 39, Long.MIN_VALUE);
        due("the last of forty", y.element(7, 39), Long.MIN_VALUE);
        due("behind it", y.element(7, 40), 0);
    }

    private static void holds() {
        Doc.quote(6, "What SHELF s holds: NONE NOTHING, no SHELF; 0 to 4 a ROW; 10 and the KIND of a RULE.");
        ThreeSizes x = new ThreeSizes();
        for (int s : new int[] {0, 7}) {
            due("NOTHING", x.holds(s), NONE);
            for (int sort = 0; sort <= 4; sort++) {
                x.row(s, sort, 0);
                due("a ROW", x.holds(s), sort);
            }
            for (int kind = 1; kind <= 6; kind++) {
                x.rule(s, kind, 0);
                due("a RULE", x.holds(s), 10 + kind);
            }
        }
        for (int s : new int[] {-1, 8, Integer.MIN_VALUE, Integer.MAX_VALUE}) {
            due("no SHELF", x.holds(s), NONE);
            Check.onlyAsks(Scenes::busy, "holds(" + s + ")", y -> y.holds(s));
        }
    }

    private static void rule() {
        Doc.quote(7, "SHELF s holds a RULE of a KIND (1 to 6) by a: 1. BAD.");
        Check.bounds(Scenes::busy, "rule(v, 1, 0)", 0, 7, (x, v) -> x.rule(v, 1, 0));
        Check.bounds(Scenes::busy, "rule(0, v, 0)", 1, 6, (x, v) -> x.rule(0, v, 0));
        Check.bounds(Scenes::busy, "rule(0, 1, v)", 0, 99, (x, v) -> x.rule(0, 1, v));
        for (int kind = 1; kind <= 6; kind++) {
            ThreeSizes x = new ThreeSizes();
            for (int a : new int[] {0, 99}) {
                due("rule", x.rule(7, kind, a), 1);
                due("its KIND", x.holds(7), 10 + kind);
                due("its a", x.says(7, 0), a);
            }
            x.row(7, 2, 3);
            due("over a ROW", x.rule(7, kind, 5) * 100 + x.holds(7), 110 + kind);
        }
    }

    /** RULES of each KIND in the SHELF of its number: by 0, but KEEP by 1, SOME by 10, WISE by 21; FREE 0 1 2. */
    private static ThreeSizes sixRules() {
        ThreeSizes x = Scenes.threeSorts();
        Scenes.full(x, 2, 1, 0);
        int[] a = {0, 0, 1, 10, 0, 0, 21};
        for (int kind = 1; kind <= 6; kind++) {
            x.rule(kind, kind, a[kind]);
        }
        return x;
    }

    private static void says() {
        Doc.quote(8, "What the RULE in SHELF s, taken for one of a KIND, says: RULE its a; LEAST, KEEP, SOME, GREAT, EVEN the SIZE that SORT 0 would get now (NONE none); WISE how many HOURS count.");
        int[] a = {0, 0, 1, 10, 0, 0, 21};
        int[] size = {0, 1, 2, 1, 2, 2, 20};
        for (int kind = 1; kind <= 6; kind++) {
            due("RULE of " + kind, sixRules().says(kind, 0), a[kind]);
            due("by its own KIND " + kind, sixRules().says(kind, kind), size[kind]);
            ThreeSizes x = sixRules();
            Scenes.full(x, 2, 2, 2);
            due("nothing FREE: " + kind, x.says(kind, kind), kind == 6 ? 20 : NONE);
        }
        due("KEEP for a LEAST", sixRules().says(2, 1), 2);
        due("SOME for a LEAST", sixRules().says(3, 1), 1);
        due("EVEN for a GREAT", sixRules().says(5, 4), 2);
        for (int hours : new int[] {0, 19, 20}) {
            ThreeSizes x = sixRules();
            x.rule(6, 6, hours);
            due("all count", x.says(6, 6), hours);
        }
    }

    private static void saysRefused() {
        Doc.quote(8, "BAD SHELF, KIND; OTHER (also if it is of no such KIND nor of one under it); NOTHING; STUCK: there is no SORT 0 (not for RULE, WISE).");
        Check.bounds(EdgesOfShelves::eightLeasts, "says(v, 1)", 0, 7, (x, v) -> x.says(v, 1));
        // a WISE is taken for the first KIND and for the last
        Check.bounds(Scenes::busy, "says(5, v)", 0, 6, (x, v) -> x.says(5, v));
        // which KINDS a RULE is taken for
        String[] kinds = {"", "01", "012", "013", "04", "045", "06"};
        for (int kind = 1; kind <= 6; kind++) {
            int k = kind;
            for (int taken = 0; taken <= 6; taken++) {
                int t = taken;
                if (kinds[kind].indexOf('0' + taken) >= 0) {
                    Check.taken(EdgesOfShelves::sixRules, "says(" + k + ", " + t + ")", x -> x.says(k, t));
                } else {
                    Check.refuses(EdgesOfShelves::sixRules, "says(" + k + ", " + t + ")", x -> x.says(k, t), Check.OTHER);
                    Check.refuses(EdgesOfShelves::noSorts, "ahead of STUCK", x -> x.says(k, t), Check.OTHER);
                }
            }
        }
        for (int kind = 0; kind <= 6; kind++) {
            int k = kind;
            Check.refuses(Scenes::busy, "a ROW", x -> x.says(0, k), Check.OTHER);
            Check.refuses(Scenes::busy, "NOTHING", x -> x.says(3, k), Check.NOTHING);
            Check.refuses(EdgesOfShelves::noSorts, "NOTHING ahead of STUCK", x -> x.says(7, k), Check.NOTHING);
            Check.refuses(EdgesOfShelves::noSorts, "a ROW ahead of STUCK", x -> x.says(0, k), Check.OTHER);
        }
        for (int s : new int[] {0, 3}) {
            Check.refuses(Scenes::busy, "KIND 7 ahead", x -> x.says(s, 7), Check.BAD);
            Check.refuses(Scenes::busy, "KIND -1 ahead", x -> x.says(s, -1), Check.BAD);
        }
        for (int kind = 1; kind <= 5; kind++) {
            int k = kind;
            Check.refuses(EdgesOfShelves::noSorts, "no SORT 0", x -> x.says(k, k), Check.STUCK);
        }
        Check.refuses(EdgesOfShelves::noSorts, "no SORT 0 for a LEAST", x -> x.says(2, 1), Check.STUCK);
        Check.refuses(EdgesOfShelves::noSorts, "no SORT 0 for a GREAT", x -> x.says(5, 4), Check.STUCK);
        for (int kind = 1; kind <= 6; kind++) {
            due("not for RULE", noSorts().says(kind, 0), 7);
        }
        due("not for WISE", noSorts().says(6, 6), 7);
    }

    private static ThreeSizes eightLeasts() {
        ThreeSizes x = Scenes.threeSorts();
        for (int s = 0; s < 8; s++) {
            x.rule(s, 1, 0);
        }
        return x;
    }

    private static ThreeSizes noSorts() {
        ThreeSizes x = new ThreeSizes();
        x.row(0, 2, 2);
        for (int kind = 1; kind <= 6; kind++) {
            x.rule(kind, kind, 7);
        }
        return x;
    }

    static void run() {
        newObject();
        row();
        set();
        copy();
        copyRefused();
        element();
        holds();
        rule();
        says();
        saysRefused();
    }
}
