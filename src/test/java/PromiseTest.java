import java.util.function.Supplier;

/** Promise by promise: answers worked out by hand from the document, its edges, and what is refused. */
public final class PromiseTest {
    private static final int NONE = ThreeSizes.NONE;
    private static final int BAD = -2;
    private static final int OTHER = -3;
    private static final int NOTHING = -4;
    private static final int STUCK = -5;
    private static final int FULL = -6;
    private static final int[] FAR_OUT = {-1, Integer.MIN_VALUE, Integer.MAX_VALUE};
    /** The a of each KIND, 1 on, in rulesOfAllKinds(). */
    private static final int[] BY = {0, 1, 11, 0, 0, 33};

    private PromiseTest() {
    }

    private static void due(String call, long got, long want) {
        Check.due(call, got, want);
    }

    private static void promise1() {
        ThreeSizes x = new ThreeSizes();
        int[] fresh = {0, 2, 2, 2, 0, 0, 0, 0, 1, 0, 0, 5, 0, 0, 0, 0, 0};
        for (int i = 0; i < fresh.length; i++) {
            due("new: status(" + i + ")", x.status(i), fresh[i]);
        }
        for (int s = 0; s < 8; s++) {
            due("new: holds(" + s + ")", x.holds(s), NONE);
        }
        for (int size = 0; size < 3; size++) {
            due("new: goes of " + size, x.size(size, 2, 3), 3);
        }
        for (int i = 0; i < 6; i++) {
            due("new: day(" + i + ")", x.day(i), 0);
        }
        due("new: wipe()", x.wipe(), 0);
        due("NONE", ThreeSizes.NONE, -1);
        new ThreeSizes().sort(0, 1, 1, 1);
        due("objects are apart", x.status(0), 0);
    }

    /** SHELVES 0 to 4: a ROW of 14 of each SORT; 6: a LEAST. */
    private static ThreeSizes rowsOfAllSorts() {
        ThreeSizes x = new ThreeSizes();
        for (int sort = 0; sort < 5; sort++) {
            Scenes.row(x, sort, sort, 0, 1, 2, 3, 4, 5, 6, 7, 8, 9, 10, 11, 12, 13);
        }
        x.rule(6, 1, 0);
        return x;
    }

    private static void promise2() {
        ThreeSizes x = new ThreeSizes();
        for (int sort = 0; sort < 5; sort++) {
            due("row", x.row(sort, sort, 40), 1);
            due("holds", x.holds(sort), sort);
            due("element at first", x.element(sort, 39), 0);
        }
        due("row of no elements", x.row(7, 0, 0), 1);
        due("set in none", x.set(7, 0, 1), BAD);
        x.set(0, 0, 5);
        due("a new row over an old one", x.row(0, 1, 3), 1);
        due("is new", x.element(0, 0), 0);
        due("is of that sort", x.holds(0), 1);
        x.rule(3, 1, 0);
        due("a row over a rule", x.row(3, 2, 1), 1);
        due("holds it", x.holds(3), 2);
        Check.refuses(PromiseTest::rowsOfAllSorts, "row(8, 0, 1)", o -> o.row(8, 0, 1), BAD);
        Check.refuses(PromiseTest::rowsOfAllSorts, "row(0, 5, 1)", o -> o.row(0, 5, 1), BAD);
        Check.refuses(PromiseTest::rowsOfAllSorts, "row(0, 0, 41)", o -> o.row(0, 0, 41), BAD);
        for (int far : FAR_OUT) {
            Check.refuses(PromiseTest::rowsOfAllSorts, "row(far, 0, 1)", o -> o.row(far, 0, 1), BAD);
            Check.refuses(PromiseTest::rowsOfAllSorts, "row(0, far, 1)", o -> o.row(0, far, 1), BAD);
            Check.refuses(PromiseTest::rowsOfAllSorts, "row(0, 0, far)", o -> o.row(0, 0, far), BAD);
        }
    }

    private static void promise3() {
        ThreeSizes x = new ThreeSizes();
        long[] put = {0, 1, -1, 127, 128, 255, 256, 32767, 32768, 65536, 2147483647L, 2147483648L, 4294967296L, Long.MIN_VALUE};
        long[][] due = {
            {0, 1, -1, 127, -128, -1, 0, -1, 0, 0, -1, 0, 0, 0},
            {0, 1, -1, 127, 128, 255, 256, 32767, -32768, 0, -1, 0, 0, 0},
            {0, 1, -1, 127, 128, 255, 256, 32767, 32768, 65536, 2147483647L, -2147483648L, 0, 0},
            put,
            {0, 1, 1, 1, 1, 1, 1, 1, 1, 1, 1, 1, 1, 1}};
        for (int sort = 0; sort < 5; sort++) {
            x.row(sort, sort, put.length);
            for (int i = 0; i < put.length; i++) {
                due("set", x.set(sort, i, put[i]), 1);
                due("sort " + sort + " of " + put[i], x.element(sort, i), due[sort][i]);
            }
        }
        x.set(4, 1, 0);
        due("a boolean not so again", x.element(4, 1), 0);
        Check.refuses(PromiseTest::rowsOfAllSorts, "set in no shelf", o -> o.set(8, 0, 1), BAD);
        Check.refuses(PromiseTest::rowsOfAllSorts, "set in a rule", o -> o.set(6, -1, 1), OTHER);
        Check.refuses(PromiseTest::rowsOfAllSorts, "set in nothing", o -> o.set(7, -1, 1), NOTHING);
        Check.refuses(PromiseTest::rowsOfAllSorts, "set behind the end", o -> o.set(0, 14, 1), BAD);
        for (int far : FAR_OUT) {
            Check.refuses(PromiseTest::rowsOfAllSorts, "set(far, 0, 1)", o -> o.set(far, 0, 1), BAD);
            Check.refuses(PromiseTest::rowsOfAllSorts, "set(0, far, 1)", o -> o.set(0, far, 1), BAD);
        }
    }

    /** SHELVES 0 and 1: longs, six and three; 2: six ints; 3: a LEAST. */
    private static ThreeSizes rowsToCopy() {
        ThreeSizes x = new ThreeSizes();
        Scenes.fill(x, 0, 1, 2, 3, 4, 5, 6);
        Scenes.fill(x, 1, 7, 8, 9);
        x.row(2, 2, 6);
        x.rule(3, 1, 0);
        return x;
    }

    private static void promise4() {
        ThreeSizes x = rowsToCopy();
        due("copy", x.copy(0, 1, 3, 1, 2), 2);
        due("left alone", x.element(1, 0), 7);
        due("copied", x.element(1, 1), 4);
        due("copied", x.element(1, 2), 5);
        due("copy up within", x.copy(0, 0, 0, 1, 5), 5);
        for (int i = 1; i < 6; i++) {
            due("as they were, up", x.element(0, i), i);
        }
        due("copy down within", x.copy(0, 0, 2, 0, 4), 4);
        due("as they were, down", x.element(0, 0), 2);
        due("as they were, down", x.element(0, 3), 5);
        due("copy none at the end", x.copy(0, 1, 6, 3, 0), 0);
        due("copy all", x.copy(1, 0, 0, 3, 3), 3);
        Check.refuses(PromiseTest::rowsToCopy, "copy from no shelf", o -> o.copy(8, 3, 0, 0, 0), BAD);
        Check.refuses(PromiseTest::rowsToCopy, "copy to no shelf", o -> o.copy(3, -1, 0, 0, 0), BAD);
        Check.refuses(PromiseTest::rowsToCopy, "copy to a rule, from nothing", o -> o.copy(4, 3, 0, 0, -1), OTHER);
        Check.refuses(PromiseTest::rowsToCopy, "copy from a rule, to nothing", o -> o.copy(3, 4, 0, 0, -1), OTHER);
        Check.refuses(PromiseTest::rowsToCopy, "copy longs to ints", o -> o.copy(0, 2, 0, 0, -1), OTHER);
        Check.refuses(PromiseTest::rowsToCopy, "copy from nothing", o -> o.copy(4, 0, 0, 0, -1), NOTHING);
        Check.refuses(PromiseTest::rowsToCopy, "copy to nothing", o -> o.copy(0, 4, 0, 0, -1), NOTHING);
        Check.refuses(PromiseTest::rowsToCopy, "copy from nothing to nothing", o -> o.copy(4, 4, 0, 0, 0), NOTHING);
        Check.refuses(PromiseTest::rowsToCopy, "copy too many", o -> o.copy(0, 0, 0, 0, 7), BAD);
        Check.refuses(PromiseTest::rowsToCopy, "copy over p's end", o -> o.copy(0, 1, 4, 0, 3), BAD);
        Check.refuses(PromiseTest::rowsToCopy, "copy over q's end", o -> o.copy(0, 1, 0, 2, 2), BAD);
        Check.refuses(PromiseTest::rowsToCopy, "copy none from behind the end", o -> o.copy(0, 1, 7, 0, 0), BAD);
        Check.refuses(PromiseTest::rowsToCopy, "copy none to behind the end", o -> o.copy(0, 1, 0, 4, 0), BAD);
        for (int far : FAR_OUT) {
            Check.refuses(PromiseTest::rowsToCopy, "copy from far", o -> o.copy(0, 1, far, 0, 1), BAD);
            Check.refuses(PromiseTest::rowsToCopy, "copy to far", o -> o.copy(0, 1, 0, far, 1), BAD);
            Check.refuses(PromiseTest::rowsToCopy, "copy far many", o -> o.copy(0, 1, 1, 1, far), BAD);
        }
    }

    private static void promises5and6() {
        ThreeSizes x = new ThreeSizes();
        Scenes.fill(x, 0, 11, 12);
        x.rule(1, 5, 3);
        due("element", x.element(0, 1), 12);
        due("element behind the end", x.element(0, 2), 0);
        due("element of a rule", x.element(1, 0), 0);
        due("element of nothing", x.element(2, 0), 0);
        due("element of no shelf", x.element(8, 0), 0);
        for (int kind = 1; kind <= 6; kind++) {
            x.rule(7, kind, 0);
            due("holds a rule", x.holds(7), 10 + kind);
        }
        due("holds longs", x.holds(0), 3);
        due("holds nothing", x.holds(2), NONE);
        due("no shelf holds", x.holds(8), NONE);
        for (int far : FAR_OUT) {
            due("element(far, 0)", x.element(far, 0), 0);
            due("element(0, far)", x.element(0, far), 0);
            due("holds(far)", x.holds(far), NONE);
        }
        due("nothing was refused", x.status(12), 0);
        due("shelves in use", x.status(9), 3);
    }

    private static ThreeSizes rulesAndARow() {
        ThreeSizes x = new ThreeSizes();
        x.rule(0, 2, 3);
        Scenes.fill(x, 1, 8);
        x.rule(7, 6, 99);
        return x;
    }

    private static void promise7() {
        ThreeSizes x = new ThreeSizes();
        due("rule(0, 1, 0)", x.rule(0, 1, 0), 1);
        due("rule(7, 6, 99)", x.rule(7, 6, 99), 1);
        due("its a", x.says(7, 0), 99);
        x.row(0, 0, 1);
        due("a rule over a row", x.rule(0, 2, 3), 1);
        due("holds it", x.holds(0), 12);
        Check.refuses(PromiseTest::rulesAndARow, "rule(8, 1, 0)", o -> o.rule(8, 1, 0), BAD);
        Check.refuses(PromiseTest::rulesAndARow, "rule(0, 0, 0)", o -> o.rule(0, 0, 0), BAD);
        Check.refuses(PromiseTest::rulesAndARow, "rule(0, 7, 0)", o -> o.rule(0, 7, 0), BAD);
        Check.refuses(PromiseTest::rulesAndARow, "rule(0, 1, 100)", o -> o.rule(0, 1, 100), BAD);
        for (int far : FAR_OUT) {
            Check.refuses(PromiseTest::rulesAndARow, "rule(far, 1, 0)", o -> o.rule(far, 1, 0), BAD);
            Check.refuses(PromiseTest::rulesAndARow, "rule(0, far, 0)", o -> o.rule(0, far, 0), BAD);
            Check.refuses(PromiseTest::rulesAndARow, "rule(0, 1, far)", o -> o.rule(0, 1, far), BAD);
        }
    }

    /** RULES of all KINDS, each in the SHELF of its KIND; 7: a ROW; one small SORT; FREE 0 1 2. */
    private static ThreeSizes rulesOfAllKinds() {
        ThreeSizes x = new ThreeSizes();
        x.sort(0, 10, 10, 5);
        Scenes.full(x, 2, 1, 0);
        for (int kind = 1; kind <= 6; kind++) {
            x.rule(kind, kind, BY[kind - 1]);
        }
        x.row(7, 0, 1);
        return x;
    }

    private static ThreeSizes rulesWithNoSort() {
        ThreeSizes x = new ThreeSizes();
        for (int kind = 1; kind <= 6; kind++) {
            x.rule(kind, kind, 7);
        }
        return x;
    }

    private static void promise8() {
        ThreeSizes x = rulesOfAllKinds();
        boolean[][] isOf = {
            {true, true, false, false, false, false, false}, // LEAST
            {true, true, true, false, false, false, false}, // KEEP
            {true, true, false, true, false, false, false}, // SOME
            {true, false, false, false, true, false, false}, // GREAT
            {true, false, false, false, true, true, false}, // EVEN
            {true, false, false, false, false, false, true}}; // WISE
        // FREE 0 1 2: a LEAST gives 1, a KEEP by 1 gives 2, a SOME by 11 none, GREAT and EVEN 2
        int[] given = {1, 2, NONE, 2, 2, 0};
        for (int kind = 1; kind <= 6; kind++) {
            for (int taken = 0; taken <= 6; taken++) {
                int s = kind;
                int as = taken;
                String call = "says of " + kind + " taken for " + taken;
                if (!isOf[kind - 1][taken]) {
                    Check.refuses(PromiseTest::rulesOfAllKinds, call, o -> o.says(s, as), OTHER);
                } else {
                    due(call, x.says(kind, taken), taken == 0 ? BY[kind - 1] : taken == 6 ? 20 : given[kind - 1]);
                }
            }
        }
        x.rule(6, 6, 19);
        due("hours that count", x.says(6, 6), 19);
        x.size(2, 0, 0);
        due("LEAST still", x.says(1, 1), 1);
        due("KEEP has none", x.says(2, 1), NONE);
        due("EVEN", x.says(5, 4), 1);
        Check.refuses(PromiseTest::rulesOfAllKinds, "says of no shelf", o -> o.says(8, 0), BAD);
        Check.refuses(PromiseTest::rulesOfAllKinds, "says for 7", o -> o.says(0, 7), BAD);
        Check.refuses(PromiseTest::rulesOfAllKinds, "says of nothing", o -> o.says(0, 1), NOTHING);
        Check.refuses(PromiseTest::rulesOfAllKinds, "says of a row", o -> o.says(7, 0), OTHER);
        for (int far : FAR_OUT) {
            Check.refuses(PromiseTest::rulesOfAllKinds, "says(far, 0)", o -> o.says(far, 0), BAD);
            Check.refuses(PromiseTest::rulesOfAllKinds, "says(1, far)", o -> o.says(1, far), BAD);
        }
        ThreeSizes none = rulesWithNoSort();
        for (int kind = 1; kind <= 6; kind++) {
            int s = kind;
            due("a with no sort", none.says(kind, 0), 7);
            if (kind < 6) {
                Check.refuses(PromiseTest::rulesWithNoSort, "says with no sort", o -> o.says(s, s), STUCK);
            }
        }
        due("WISE with no sort", none.says(6, 6), 7);
        Check.refuses(PromiseTest::rulesWithNoSort, "OTHER ahead of STUCK", o -> o.says(1, 2), OTHER);
    }

    /** All three boxes of a SIZE are FULL. */
    private static ThreeSizes threeFull(int size) {
        ThreeSizes x = new ThreeSizes();
        x.size(size, 0, 3);
        x.size(size, 1, 3);
        return x;
    }

    private static void promise9() {
        ThreeSizes x = new ThreeSizes();
        for (int size = 0; size < 3; size++) {
            int z = size;
            due("boxes", x.size(size, 0, 4), 2);
            due("boxes again", x.size(size, 0, 3), 4);
            due("full", x.size(size, 1, 3), 0);
            Check.refuses(() -> threeFull(z), "fewer than full", o -> o.size(z, 0, 2), STUCK);
            Check.refuses(() -> threeFull(z), "more than boxes", o -> o.size(z, 1, 4), STUCK);
            Check.refuses(() -> threeFull(z), "5 boxes", o -> o.size(z, 0, 5), BAD);
            Check.refuses(() -> threeFull(z), "5 full", o -> o.size(z, 1, 5), BAD);
            due("full again", x.size(size, 1, 0), 3);
            due("no boxes", x.size(size, 0, 0), 3);
            due("goes", x.size(size, 2, 10), 3);
            due("goes again", x.size(size, 2, 0), 10);
            Check.refuses(() -> threeFull(z), "goes 11", o -> o.size(z, 2, 11), BAD);
            Check.refuses(() -> threeFull(z), "no such number", o -> o.size(z, 3, 0), BAD);
            due("status boxes", x.status(1 + size), 0);
        }
        Check.refuses(() -> threeFull(0), "size 3", o -> o.size(3, 0, 0), BAD);
        for (int far : FAR_OUT) {
            Check.refuses(() -> threeFull(0), "size(far, 0, 0)", o -> o.size(far, 0, 0), BAD);
            Check.refuses(() -> threeFull(0), "size(0, far, 0)", o -> o.size(0, far, 0), BAD);
            for (int what = 0; what < 3; what++) {
                int which = what;
                Check.refuses(() -> threeFull(0), "size(0, what, far)", o -> o.size(0, which, far), BAD);
            }
        }
    }

    private static ThreeSizes oneSort() {
        ThreeSizes x = new ThreeSizes();
        x.sort(0, 1, 1, 1);
        return x;
    }

    private static ThreeSizes sortsToHundred() {
        ThreeSizes x = new ThreeSizes();
        x.sort(0, 0, 1, 0);
        x.sort(2, 100, 99, 99);
        return x;
    }

    /** As many as there can be, and 100 hundredths of them. */
    private static ThreeSizes sixSorts() {
        ThreeSizes x = sortsToHundred();
        for (int i = 2; i < 6; i++) {
            x.sort(1, 0, 10, 5);
        }
        return x;
    }

    private static void promises10and12() {
        ThreeSizes x = new ThreeSizes();
        due("the least sort", x.sort(0, 0, 1, 0), 0);
        due("the greatest sort", x.sort(2, 100, 99, 99), 1);
        int[][] due = {{0, 0, 1, 0}, {2, 100, 99, 99}};
        for (int sort = 0; sort < 2; sort++) {
            for (int what = 0; what < 4; what++) {
                due("sortOf", x.sortOf(sort, what), due[sort][what]);
            }
        }
        Check.refuses(PromiseTest::sortsToHundred, "comes past 100", o -> o.sort(0, 1, 1, 0), STUCK);
        Check.refuses(PromiseTest::sortsToHundred, "BAD ahead of STUCK", o -> o.sort(3, 1, 1, 0), BAD);
        for (int i = 2; i < 6; i++) {
            due("sort", x.sort(1, 0, 10, 5), i);
        }
        Check.refuses(PromiseTest::sixSorts, "STUCK ahead of FULL", o -> o.sort(0, 1, 1, 0), STUCK);
        Check.refuses(PromiseTest::sixSorts, "a seventh", o -> o.sort(0, 0, 1, 0), FULL);
        Check.refuses(PromiseTest::oneSort, "size 3", o -> o.sort(3, 1, 1, 1), BAD);
        Check.refuses(PromiseTest::oneSort, "comes 101", o -> o.sort(0, 101, 1, 1), BAD);
        Check.refuses(PromiseTest::oneSort, "worth 0", o -> o.sort(0, 1, 0, 1), BAD);
        Check.refuses(PromiseTest::oneSort, "worth 100", o -> o.sort(0, 1, 100, 1), BAD);
        Check.refuses(PromiseTest::oneSort, "back 100", o -> o.sort(0, 1, 1, 100), BAD);
        Check.refuses(PromiseTest::oneSort, "no such sort", o -> o.sortOf(1, 0), BAD);
        Check.refuses(PromiseTest::oneSort, "no such number", o -> o.sortOf(0, 4), BAD);
        for (int far : FAR_OUT) {
            Check.refuses(PromiseTest::oneSort, "sort(far, ..)", o -> o.sort(far, 1, 1, 1), BAD);
            Check.refuses(PromiseTest::oneSort, "sort(0, far, ..)", o -> o.sort(0, far, 1, 1), BAD);
            Check.refuses(PromiseTest::oneSort, "sort(0, 1, far, 1)", o -> o.sort(0, 1, far, 1), BAD);
            Check.refuses(PromiseTest::oneSort, "sort(0, 1, 1, far)", o -> o.sort(0, 1, 1, far), BAD);
            Check.refuses(PromiseTest::oneSort, "sortOf(far, 0)", o -> o.sortOf(far, 0), BAD);
            Check.refuses(PromiseTest::oneSort, "sortOf(0, far)", o -> o.sortOf(0, far), BAD);
        }
    }

    private static ThreeSizes sortsInARow() {
        ThreeSizes x = oneSort();
        Scenes.fill(x, 0, 0, 1, 1, 1, 0, 1, 0, 1, 0, 1, 1, 1);
        x.rule(2, 1, 0);
        return x;
    }

    private static void promise11() {
        ThreeSizes x = new ThreeSizes();
        Scenes.fill(x, 0, 1, 20, 30, 4, 2, 40, 9, 0, 0, 41, 1, 1, 0, 1, 1, 1);
        due("none wanted", x.sorts(0, 0), 0);
        due("two and one that passes 100", x.sorts(0, 16), 2);
        due("nothing was refused", x.status(12) + x.status(15) + x.status(16), 0);
        due("two", x.status(0), 2);
        due("size", x.sortOf(1, 0), 2);
        due("comes", x.sortOf(1, 1), 40);
        due("worth", x.sortOf(0, 2), 30);
        due("back", x.sortOf(0, 3), 4);
        Scenes.fill(x, 1, 0, 0, 1, 0, 0, 0, 1, 0, 0, 0, 1, 0, 0, 0, 1, 0, 0, 0, 1, 0);
        due("until there is no room", x.sorts(1, 20), 4);
        due("no room", x.sorts(1, 4), 0);
        due("FULL is not counted", x.status(16), 0);
        ThreeSizes y = new ThreeSizes();
        Scenes.fill(y, 0, 4294967296L, 1, 1, 1);
        due("a long that is no size", y.sorts(0, 4), 0);
        Scenes.fill(y, 0, 0, 1, 4294967297L, 1);
        due("a long that is no worth", y.sorts(0, 4), 0);
        Scenes.fill(y, 0, 0, 1, 1, 1, 0, 1, 0, 1, 0, 1, 1, 1);
        due("behind a bad one none comes", y.sorts(0, 12), 1);
        due("only the first n", y.sorts(0, 4), 1);
        y.row(1, 4, 4);
        y.set(1, 2, 5);
        due("by booleans", y.sorts(1, 4), 1);
        due("is 1", y.sortOf(2, 2), 1);
        Check.refuses(PromiseTest::sortsInARow, "sorts by no shelf", o -> o.sorts(8, 4), BAD);
        Check.refuses(PromiseTest::sortsInARow, "sorts by a rule", o -> o.sorts(2, -1), OTHER);
        Check.refuses(PromiseTest::sortsInARow, "sorts by nothing", o -> o.sorts(3, -1), NOTHING);
        Check.refuses(PromiseTest::sortsInARow, "no multiple of four", o -> o.sorts(0, 6), BAD);
        Check.refuses(PromiseTest::sortsInARow, "more than elements", o -> o.sorts(0, 16), BAD);
        Check.refuses(PromiseTest::sortsInARow, "-4", o -> o.sorts(0, -4), BAD);
        for (int far : FAR_OUT) {
            Check.refuses(PromiseTest::sortsInARow, "sorts(far, 4)", o -> o.sorts(far, 4), BAD);
            Check.refuses(PromiseTest::sortsInARow, "sorts(0, far)", o -> o.sorts(0, far), BAD);
        }
    }

    private static ThreeSizes askedFor() {
        ThreeSizes x = new ThreeSizes();
        x.ask(0, 4);
        x.ask(1, 0);
        return x;
    }

    private static void promise13() {
        ThreeSizes x = new ThreeSizes();
        due("near", x.ask(0, 10), 0);
        due("near again", x.ask(0, 0), 10);
        due("way", x.ask(1, 99), 5);
        due("way again", x.ask(1, 0), 99);
        x.ask(0, 4);
        due("status near", x.status(10), 4);
        due("status way", x.status(11), 0);
        Check.refuses(PromiseTest::askedFor, "near 11", o -> o.ask(0, 11), BAD);
        Check.refuses(PromiseTest::askedFor, "way 100", o -> o.ask(1, 100), BAD);
        Check.refuses(PromiseTest::askedFor, "ask 2", o -> o.ask(2, 1), BAD);
        for (int far : FAR_OUT) {
            Check.refuses(PromiseTest::askedFor, "ask(far, 1)", o -> o.ask(far, 1), BAD);
            Check.refuses(PromiseTest::askedFor, "ask(0, far)", o -> o.ask(0, far), BAD);
            Check.refuses(PromiseTest::askedFor, "ask(1, far)", o -> o.ask(1, far), BAD);
        }
    }

    private static ThreeSizes tapeOf(int n) {
        ThreeSizes x = new ThreeSizes();
        Check.feed(x, " ".repeat(n));
        return x;
    }

    private static void promises14and15() {
        ThreeSizes x = new ThreeSizes();
        due("feed 4", x.feed(('b' << 24) + ('o' << 16) + ('x' << 8) + ' ', 4), 4);
        due("feed 3", x.feed((99 << 24) + ('1' << 16) + (' ' << 8) + '4', 3), 7);
        due("status(7)", x.status(7), 7);
        due("wall", x.wall(), 1);
        due("boxes", x.status(2), 4);
        due("feed 2", x.feed(0x7f7f0000 + ('n' << 8) + 'e', 2), 2);
        due("feed 1", x.feed('a' + 256, 1), 3);
        due("feed 1", x.feed('r', 1), 4);
        due("feed 1", x.feed('7', 1), 5);
        due("wall", x.wall(), 1);
        due("near", x.status(10), 7);
        for (int i = 1; i <= 49; i++) {
            due("feed", x.feed(-1, 4), 4 * i);
        }
        due("199", x.feed(0, 3), 199);
        Check.refuses(() -> tapeOf(199), "over 200", o -> o.feed(0, 2), FULL);
        due("200", x.feed(0, 1), 200);
        Check.refuses(() -> tapeOf(200), "201", o -> o.feed(0, 1), FULL);
        Check.refuses(() -> tapeOf(200), "BAD ahead of FULL", o -> o.feed(0, 5), BAD);
        due("wipe", x.wipe(), 200);
        due("wipe again", x.wipe(), 0);
        Check.refuses(() -> tapeOf(3), "feed none", o -> o.feed(1, 0), BAD);
        Check.refuses(() -> tapeOf(3), "feed 5", o -> o.feed(1, 5), BAD);
        for (int far : FAR_OUT) {
            Check.refuses(() -> tapeOf(3), "feed far", o -> o.feed(1, far), BAD);
        }
    }

    private static void fault(Supplier<ThreeSizes> scene, String text, int place) {
        Check.refuses(scene, "wall of '" + text + "'", o -> Check.wall(o, text), -20 - place - BAD, BAD);
    }

    /** Three small boxes, all FULL; four SORTS, 27 hundredths. */
    private static ThreeSizes readWall() {
        ThreeSizes x = new ThreeSizes();
        Check.wall(x, "box 0 3;box 1 0;goes 2 10;near 10;way 99;sort 2 comes 20 worth 30 back 0");
        Check.wall(x, "sort 0 comes 1;sort 1 comes 2 worth 3;sort 2 comes 4 back 6");
        x.size(0, 1, 3);
        return x;
    }

    private static void promise16() {
        ThreeSizes x = new ThreeSizes();
        due("one statement", Check.wall(x, "box 0 4"), 1);
        due("all of them", Check.wall(x, "  box1 0;goes 2 10 ; near 010;way 99;sort 2 comes 20 worth 30 back 0  "), 5);
        due("box", x.status(1), 4);
        due("box", x.status(2), 0);
        due("goes", x.size(2, 2, 10), 10);
        due("near", x.status(10), 10);
        due("way", x.status(11), 99);
        due("THE TAPE is empty", x.status(7), 0);
        due("sorts by halves", Check.wall(x, "sort 0 comes 1;sort 1 comes 2 worth 3;sort 2comes4back 6"), 3);
        int[][] due = {{2, 20, 30, 0}, {0, 1, 10, 5}, {1, 2, 3, 5}, {2, 4, 10, 6}};
        for (int sort = 0; sort < 4; sort++) {
            for (int what = 0; what < 4; what++) {
                due("sortOf", x.sortOf(sort, what), due[sort][what]);
            }
        }
        x.size(0, 1, 3);
        due("box down to what is full", Check.wall(x, "box 0 4;box 0 3"), 2);
        fault(PromiseTest::readWall, "", 0);
        fault(PromiseTest::readWall, "   ", 3);
        fault(PromiseTest::readWall, ";", 0);
        fault(PromiseTest::readWall, "box", 3);
        fault(PromiseTest::readWall, "box 0", 5);
        fault(PromiseTest::readWall, "box 0 ", 6);
        fault(PromiseTest::readWall, "box 0 3;", 8);
        fault(PromiseTest::readWall, "box 0 3 ; ", 10);
        fault(PromiseTest::readWall, "box 0 3;;", 8);
        fault(PromiseTest::readWall, "box 0 2", 6);
        fault(PromiseTest::readWall, "box 0 5", 6);
        fault(PromiseTest::readWall, "box 3 1", 4);
        fault(PromiseTest::readWall, "box x 1", 4);
        fault(PromiseTest::readWall, "box 0003 1", 4);
        fault(PromiseTest::readWall, "box 0 0004", 6);
        fault(PromiseTest::readWall, "box 0 99999999999", 6);
        fault(PromiseTest::readWall, "box 0 3 4", 8);
        fault(PromiseTest::readWall, "box 0 3 box 1 1", 8);
        fault(PromiseTest::readWall, "boxes 0 3", 0);
        fault(PromiseTest::readWall, "bo", 0);
        fault(PromiseTest::readWall, "goes 0 11", 7);
        fault(PromiseTest::readWall, "goes 3 1", 5);
        fault(PromiseTest::readWall, "near 11", 5);
        fault(PromiseTest::readWall, "way 100", 4);
        fault(PromiseTest::readWall, "way;", 3);
        fault(PromiseTest::readWall, "way 1!", 5);
        fault(PromiseTest::readWall, "way 1\u00e9", 5);
        fault(PromiseTest::readWall, "way\t1", 3);
        fault(PromiseTest::readWall, "Way 1", 0);
        fault(PromiseTest::readWall, "wayA 1", 3);
        fault(PromiseTest::readWall, "wayz 1", 0);
        fault(PromiseTest::readWall, "fox 0 3", 0);
        fault(PromiseTest::readWall, "tear 1", 0);
        fault(PromiseTest::readWall, "7", 0);
        fault(PromiseTest::readWall, "comes 7", 0);
        fault(PromiseTest::readWall, "sort 0", 6);
        fault(PromiseTest::readWall, "sort 3 comes 1", 5);
        fault(PromiseTest::readWall, "sort 0 worth 1", 7);
        fault(PromiseTest::readWall, "sort 0 comes", 12);
        fault(PromiseTest::readWall, "sort 0 comes 1 worth 0", 21);
        fault(PromiseTest::readWall, "sort 0 comes 1 worth 100", 21);
        fault(PromiseTest::readWall, "sort 0 comes 1 worth 1 back 100", 28);
        fault(PromiseTest::readWall, "sort 0 comes 1 back 1 worth 1", 22);
        fault(PromiseTest::readWall, "sort 0 comes 1 worth 1 worth 1", 23);
        fault(PromiseTest::readWall, "sort 0 comes 1 back 1 back 1", 22);
        fault(PromiseTest::readWall, "sort 0 comes 74", 13);
        fault(PromiseTest::readWall, "sort 0 comes 101", 13);
        fault(PromiseTest::readWall, "sort 0 comes 73;sort 0 comes 1", 29);
        fault(PromiseTest::readWall, "near 4;way 4;goes 0 0;box 1 1;sort 0 comes 1;oh", 45);
        due("up to 100", Check.wall(x, "sort 0 comes 73;sort 0 comes 0"), 2);
        fault(PromiseTest::sixSorts, "sort 0 comes 0", 0);
        fault(PromiseTest::sixSorts, "near 1;sort", 7);
        due("the rest still", Check.wall(x, "near 1"), 1);
        StringBuilder many = new StringBuilder("way0");
        for (int i = 0; i < 39; i++) {
            many.append(";way1");
        }
        due("forty", Check.wall(x, many.append(' ').toString()), 40);
        due("way", x.status(11), 1);
    }

    private static ThreeSizes someFull() {
        ThreeSizes x = new ThreeSizes();
        Scenes.boxes(x, 4, 3, 2);
        Scenes.full(x, 1, 3, 0);
        return x;
    }

    private static void promise17() {
        ThreeSizes x = someFull();
        due("free", x.state(0), 5);
        due("full", x.state(1), 4);
        due("state", x.state(2), 3 + 0 + 50);
        Check.refuses(PromiseTest::someFull, "state 3", o -> o.state(3), BAD);
        for (int far : FAR_OUT) {
            Check.refuses(PromiseTest::someFull, "state far", o -> o.state(far), BAD);
        }
    }

    /** All boxes FREE: 4 4 3; a SORT of each SIZE; RULES but WISE, each in the SHELF of its KIND; 6: a ROW. */
    private static ThreeSizes fiveRules() {
        ThreeSizes x = new ThreeSizes();
        Scenes.boxes(x, 4, 4, 3);
        for (int size = 0; size < 3; size++) {
            x.sort(size, 10, 10 + size, 5);
        }
        x.rule(1, 1, 3);
        x.rule(2, 2, 2);
        x.rule(3, 3, 11);
        x.rule(4, 4, 3);
        x.rule(5, 5, 3);
        x.row(6, 0, 1);
        return x;
    }

    private static void promise18() {
        ThreeSizes x = fiveRules();
        int[][] cases = {
            // SORT, STATE, then by LEAST, KEEP 2, SOME 11, GREAT, EVEN
            {0, 1 + 5 + 25, 0, 0, NONE, 2, 2},
            {0, 5 * 2 + 25 * 3, 1, 2, NONE, 2, 2},
            {0, 5 * 3 + 25 * 3, 1, 1, NONE, 2, 2},
            {0, 5 * 2 + 25 * 2, 1, NONE, NONE, 2, 2},
            {0, 4 + 5 * 3 + 25, 0, 0, NONE, 2, 0},
            {0, 3 + 5 * 3 + 25, 0, 0, NONE, 2, 1},
            {1, 4 + 5 + 25 * 3, 1, 1, 1, 2, 2},
            {1, 4 + 5 * 2 + 25, 1, 1, 1, 2, 1},
            {1, 4 + 25 * 2, 2, NONE, 2, 2, 2},
            {1, 4, NONE, NONE, NONE, NONE, NONE},
            {2, 4 + 5 * 4 + 25, 2, 2, 2, 2, 2},
            {2, 4 + 5 * 4, NONE, NONE, NONE, NONE, NONE},
            {0, 0, NONE, NONE, NONE, NONE, NONE}};
        for (int[] c : cases) {
            for (int s = 1; s <= 5; s++) {
                due("gets(" + s + ", " + c[0] + ", " + c[1] + ")", x.gets(s, c[0], c[1]), c[1 + s]);
            }
        }
        ThreeSizes y = Scenes.scarce();
        y.rule(0, 6, 0);
        y.rule(1, 6, 1);
        due("WISE of no hours takes it", y.gets(0, 0, 25), 2);
        due("WISE of one hour leaves it", y.gets(1, 0, 25), NONE);
        due("WISE gives it to what is worth it", y.gets(1, 1, 25), 2);
        y.ask(0, 10);
        y.ask(1, 0);
        due("of several none rather than one", y.gets(0, 0, 25), NONE);
        Check.refuses(PromiseTest::fiveRules, "gets by no shelf", o -> o.gets(8, 0, 0), BAD);
        Check.refuses(PromiseTest::fiveRules, "no sort", o -> o.gets(6, 3, 0), BAD);
        Check.refuses(PromiseTest::fiveRules, "more free than boxes", o -> o.gets(6, 0, 100), BAD);
        Check.refuses(PromiseTest::fiveRules, "state 125", o -> o.gets(7, 0, 125), BAD);
        Check.refuses(PromiseTest::fiveRules, "gets by a row", o -> o.gets(6, 0, 0), OTHER);
        Check.refuses(PromiseTest::fiveRules, "gets by nothing", o -> o.gets(7, 0, 0), NOTHING);
        for (int far : FAR_OUT) {
            Check.refuses(PromiseTest::fiveRules, "gets(far, 0, 0)", o -> o.gets(far, 0, 0), BAD);
            Check.refuses(PromiseTest::fiveRules, "gets(1, far, 0)", o -> o.gets(1, far, 0), BAD);
            Check.refuses(PromiseTest::fiveRules, "gets(1, 0, far)", o -> o.gets(1, 0, far), BAD);
        }
        x.size(0, 1, 4);
        due("a state with more free than now", x.gets(1, 0, 4), 0);
    }

    private static void promise19() {
        ThreeSizes x = new ThreeSizes();
        x.sort(0, 10, 20, 7);
        due("all back", x.lost(0), -7000000);
        x.ask(0, 10);
        due("all near", x.lost(0), 15000000);
        x.ask(0, 4);
        due("some near", x.lost(0), 100000 * (4 * 15 - 6 * 7));
        x.ask(1, 99);
        due("a long way", x.lost(0), 100000 * (4 * -79 - 6 * 7));
        Check.refuses(PromiseTest::oneSort, "lost(1)", o -> o.lost(1), Check.FAR, BAD);
        for (int far : FAR_OUT) {
            Check.refuses(PromiseTest::oneSort, "lost(far)", o -> o.lost(far), Check.FAR, BAD);
        }
    }

    /** SHELF 0: a LEAST; 1: a WISE by 1; 2: a ROW. */
    private static ThreeSizes scarceByRules() {
        ThreeSizes x = Scenes.scarce();
        x.rule(0, 1, 0);
        x.rule(1, 6, 1);
        x.row(2, 0, 1);
        return x;
    }

    private static void promises20and21() {
        ThreeSizes x = Scenes.oneBox();
        x.rule(0, 1, 0);
        x.rule(1, 3, 11);
        long[] best = {0, 10000000, 9500000, 9000000};
        for (int n = 0; n < best.length; n++) {
            due("best(" + n + ")", x.best(n), best[n]);
            due("value(0, " + n + ")", x.value(0, n), best[n]);
            due("value(1, " + n + ")", x.value(1, n), -5000000L * n);
        }
        x.size(0, 1, 1);
        due("full: fetched by 3 of 10", x.best(1), -500000);
        x.size(0, 2, 10);
        due("full: fetched for sure", x.best(24), 240000000);
        x.size(0, 2, 0);
        due("full: never fetched", x.best(24), -120000000);
        cuts();
        ThreeSizes z = scarceByRules();
        due("the small one takes it", z.value(0, 1), 26000000);
        due("the best of one hour", z.best(1), 26000000);
        due("of two: it is kept for the large one", z.best(2), 25000000 + 13000000);
        due("of two by LEAST", z.value(0, 2), 26000000);
        due("WISE leaves it in the last hour, too", z.value(1, 1), 25000000);
        due("of two by WISE", z.value(1, 2), 25000000 + 12500000);
        Check.refuses(PromiseTest::scarceByRules, "value of no shelf", o -> o.value(8, 1), Check.FAR, BAD);
        Check.refuses(PromiseTest::scarceByRules, "value of 25 hours", o -> o.value(2, 25), Check.FAR, BAD);
        Check.refuses(PromiseTest::scarceByRules, "value by a row", o -> o.value(2, 1), Check.FAR, OTHER);
        Check.refuses(PromiseTest::scarceByRules, "value by nothing", o -> o.value(3, 1), Check.FAR, NOTHING);
        Check.refuses(PromiseTest::scarceByRules, "best of 25 hours", o -> o.best(25), Check.FAR, BAD);
        for (int far : FAR_OUT) {
            Check.refuses(PromiseTest::scarceByRules, "value(far, 1)", o -> o.value(far, 1), Check.FAR, BAD);
            Check.refuses(PromiseTest::scarceByRules, "value(0, far)", o -> o.value(0, far), Check.FAR, BAD);
            Check.refuses(PromiseTest::scarceByRules, "best(far)", o -> o.best(far), Check.FAR, BAD);
        }
    }

    /** One small box, FULL; one SORT comes by 1 of 100: what is cut, and toward 0. */
    private static void cuts() {
        ThreeSizes x = new ThreeSizes();
        Scenes.boxes(x, 1, 0, 0);
        x.size(0, 1, 1);
        x.sort(0, 1, 1, 0);
        due("one hour", x.best(1), 3000);
        // 3/10 * (1/100 * 1,003,000 + 99/100 * 10,000) + 7/10 * 3,000
        due("two hours", x.best(2), 8079);
        // 3/10 * (1/100 * 1,008,079 + 99/100 * 19,930) + 7/10 * 8,079 = 14,598.747
        due("three hours, cut", x.best(3), 14598);
        ThreeSizes y = new ThreeSizes();
        Scenes.boxes(y, 1, 0, 0);
        y.size(0, 1, 1);
        y.sort(0, 1, 1, 99);
        y.rule(0, 1, 0);
        due("one hour", y.best(1), -690000);
        due("two hours", y.best(2), -1172100);
        // 3/10 * (1/100 * (1,000,000 - 1,172,100) + 99/100 * 13,000) - 7/10 * 2,162,100 = -1,510,125.3
        due("three hours, cut toward 0", y.best(3), -1510125);
        due("three hours by a rule, cut toward 0", y.value(0, 3), -1510125);
    }

    private static void promises22and23() {
        ThreeSizes x = Scenes.scarce();
        due("now takes it", x.now(0, 0), 2);
        due("now leaves it", x.now(0, 1), NONE);
        due("now for what is worth it", x.now(1, 24), 2);
        x.size(2, 1, 1);
        due("nothing free", x.now(1, 0), NONE);
        ThreeSizes y = new ThreeSizes();
        y.sort(0, 10, 10, 5);
        due("of several the least", y.now(0, 0), 0);
        ThreeSizes z = scarceByRules();
        z.rule(1, 6, 24);
        due("gap of two hours", z.gap(0, 2), 12000000);
        due("gap of one hour", z.gap(0, 1), 0);
        due("gap of WISE", z.gap(1, 1), 1000000);
        due("gap of no hours", z.gap(1, 0), 0);
        Check.refuses(PromiseTest::scarceByRules, "now of no sort", o -> o.now(2, 1), BAD);
        Check.refuses(PromiseTest::scarceByRules, "now of 25 hours", o -> o.now(0, 25), BAD);
        Check.refuses(PromiseTest::scarceByRules, "gap of no shelf", o -> o.gap(8, 1), Check.FAR, BAD);
        Check.refuses(PromiseTest::scarceByRules, "gap of 25 hours", o -> o.gap(3, 25), Check.FAR, BAD);
        Check.refuses(PromiseTest::scarceByRules, "gap by a row", o -> o.gap(2, 1), Check.FAR, OTHER);
        Check.refuses(PromiseTest::scarceByRules, "gap by nothing", o -> o.gap(3, 1), Check.FAR, NOTHING);
        for (int far : FAR_OUT) {
            Check.refuses(PromiseTest::scarceByRules, "now(far, 1)", o -> o.now(far, 1), BAD);
            Check.refuses(PromiseTest::scarceByRules, "now(0, far)", o -> o.now(0, far), BAD);
            Check.refuses(PromiseTest::scarceByRules, "gap(far, 1)", o -> o.gap(far, 1), Check.FAR, BAD);
            Check.refuses(PromiseTest::scarceByRules, "gap(0, far)", o -> o.gap(0, far), Check.FAR, BAD);
        }
    }

    private static ThreeSizes scarceWithARow() {
        ThreeSizes x = Scenes.scarce();
        x.row(0, 0, 4);
        return x;
    }

    private static void promises24and25() {
        ThreeSizes x = Scenes.scarce();
        Check.refuses(Scenes::scarce, "no rule", o -> o.head(1), STUCK);
        x.row(0, 0, 4);
        Check.refuses(PromiseTest::scarceWithARow, "a row alone", o -> o.head(1), STUCK);
        x.rule(2, 1, 0);
        x.rule(4, 4, 0);
        x.rule(5, 6, 5);
        x.rule(6, 2, 4);
        due("head of one hour: LEAST, the first", x.head(1), 2);
        due("head of two hours: WISE, ahead of KEEP", x.head(2), 5);
        due("head of no hours: the first", x.head(0), 2);
        x.rule(0, 3, 99);
        due("SOME is less", x.head(1), 2);
        due("keep of one hour", x.keep(1), 0);
        due("keep of two hours", x.keep(2), 1);
        due("keep of no hours", x.keep(0), 0);
        ThreeSizes lossy = new ThreeSizes();
        Scenes.boxes(lossy, 0, 0, 0);
        lossy.sort(0, 100, 10, 5);
        lossy.rule(3, 1, 0);
        due("all below 0: still the first", lossy.head(5), 3);
        due("all below 0: still the least", lossy.keep(5), 0);
        // two boxes, three HOURS: 52 by 0, 63.5 by 1, 68.75 by 2 and more
        ThreeSizes more = Scenes.scarce();
        Scenes.boxes(more, 0, 0, 2);
        due("keep both for large ones", more.keep(3), 2);
        Scenes.boxes(more, 0, 0, 4);
        due("keep all four for large ones", more.keep(8), 4);
        Check.refuses(PromiseTest::scarceByRules, "head of 25", o -> o.head(25), BAD);
        Check.refuses(PromiseTest::scarceByRules, "keep of 25", o -> o.keep(25), BAD);
        for (int far : FAR_OUT) {
            Check.refuses(PromiseTest::scarceByRules, "head(far)", o -> o.head(far), BAD);
            Check.refuses(PromiseTest::scarceByRules, "keep(far)", o -> o.keep(far), BAD);
        }
    }

    /** A middle and a large box, never fetched; SHELVES 0, 3 and 4: ROWS; 1: a LEAST. */
    private static ThreeSizes cartfuls() {
        ThreeSizes x = Scenes.scarce();
        Scenes.boxes(x, 0, 1, 1);
        x.size(1, 2, 0);
        Scenes.fill(x, 0, 0, 1, 0, 1, 7);
        x.rule(1, 1, 0);
        x.row(3, 4, 6);
        Scenes.fill(x, 4, 4294967296L, -1);
        return x;
    }

    private static void promise26() {
        ThreeSizes x = cartfuls();
        due("cart of none", x.cart(0, 0, 0, NONE), 0);
        due("cart of none with an hour", x.cart(0, 0, 1, NONE), x.best(1));
        due("cart of two", x.cart(0, 2, 0, NONE), 52000000);
        due("the first", x.cart(0, 2, 0, 0), 1);
        due("the second", x.cart(0, 2, 0, 1), 2);
        due("cart of four", x.cart(0, 4, 0, NONE), 52000000);
        // of the two small ones the first may go without: none comes first
        due("none first", x.cart(0, 4, 0, 0), NONE);
        due("the large one", x.cart(0, 4, 0, 1), NONE);
        due("the other small one", x.cart(0, 4, 0, 2), 1);
        due("the other large one", x.cart(0, 4, 0, 3), 2);
        due("one with an hour behind it", x.cart(0, 1, 1, NONE), 2000000 + 26000000);
        due("gets the middle one", x.cart(0, 1, 1, 0), 1);
        due("booleans are sorts", x.cart(3, 6, 0, NONE), 4000000);
        Check.refuses(PromiseTest::cartfuls, "no shelf", o -> o.cart(8, 0, 0, NONE), Check.FAR, BAD);
        Check.refuses(PromiseTest::cartfuls, "seven", o -> o.cart(0, 7, 0, NONE), Check.FAR, BAD);
        Check.refuses(PromiseTest::cartfuls, "25 hours", o -> o.cart(0, 1, 25, NONE), Check.FAR, BAD);
        Check.refuses(PromiseTest::cartfuls, "no such one", o -> o.cart(0, 2, 0, 2), Check.FAR, BAD);
        Check.refuses(PromiseTest::cartfuls, "no such one, ahead", o -> o.cart(1, 2, 0, 2), Check.FAR, BAD);
        Check.refuses(PromiseTest::cartfuls, "no such one at all, ahead", o -> o.cart(2, 0, 0, 0), Check.FAR, BAD);
        Check.refuses(PromiseTest::cartfuls, "-2", o -> o.cart(0, 2, 0, -2), Check.FAR, BAD);
        Check.refuses(PromiseTest::cartfuls, "no sort", o -> o.cart(0, 5, 0, NONE), Check.FAR, BAD);
        Check.refuses(PromiseTest::cartfuls, "fewer elements", o -> o.cart(0, 6, 0, NONE), Check.FAR, BAD);
        Check.refuses(PromiseTest::cartfuls, "cart by a rule", o -> o.cart(1, 6, 0, NONE), Check.FAR, OTHER);
        Check.refuses(PromiseTest::cartfuls, "cart by nothing", o -> o.cart(2, 6, 0, NONE), Check.FAR, NOTHING);
        Check.refuses(PromiseTest::cartfuls, "a long that is no sort", o -> o.cart(4, 1, 0, NONE), Check.FAR, BAD);
        for (int far : FAR_OUT) {
            Check.refuses(PromiseTest::cartfuls, "cart(far, ..)", o -> o.cart(far, 1, 1, 0), Check.FAR, BAD);
            Check.refuses(PromiseTest::cartfuls, "cart(0, far, ..)", o -> o.cart(0, far, 1, NONE), Check.FAR, BAD);
            Check.refuses(PromiseTest::cartfuls, "cart(0, 1, far, 0)", o -> o.cart(0, 1, far, 0), Check.FAR, BAD);
            if (far != NONE) {
                Check.refuses(PromiseTest::cartfuls, "cart(0, 1, 1, far)", o -> o.cart(0, 1, 1, far), Check.FAR, BAD);
            }
        }
    }

    /** SHELF 0: a CARTFUL; 1 and 2: PLACINGS; 3: a LEAST. FREE 1 1 2. */
    private static ThreeSizes placings() {
        ThreeSizes x = Scenes.threeSorts();
        Scenes.boxes(x, 1, 1, 2);
        Scenes.fill(x, 0, 0, 1, 2, 0, 1, 2, 9);
        Scenes.fill(x, 1, 0, 1, 2, 2, 2, -1);
        Scenes.fill(x, 2, 4294967296L, 0, 2);
        x.rule(3, 1, 0);
        return x;
    }

    private static void promises27and28() {
        ThreeSizes x = placings();
        due("judge", x.judge(0, 1, 4), NONE);
        due("no free box any more", x.judge(0, 1, 5), 4);
        due("does not fit", x.judge(0, 2, 3), 1);
        due("others than 0 to 2 are none", x.judge(0, 2, 1), NONE);
        due("judge of none", x.judge(0, 2, 0), NONE);
        Check.refuses(PromiseTest::placings, "put what is wrong", o -> o.put(0, 1, 5), STUCK);
        for (boolean judged : new boolean[] {true, false}) {
            String name = judged ? "judge " : "put ";
            placingRefused(name + "no shelf s", judged, 8, 3, 0, BAD);
            placingRefused(name + "no shelf t", judged, 4, 8, 0, BAD);
            placingRefused(name + "k 7", judged, 3, 4, 7, BAD);
            placingRefused(name + "k -1", judged, 3, 4, -1, BAD);
            placingRefused(name + "a rule s", judged, 3, 4, 6, OTHER);
            placingRefused(name + "a rule t", judged, 4, 3, 6, OTHER);
            placingRefused(name + "nothing s", judged, 4, 0, 6, NOTHING);
            placingRefused(name + "nothing t", judged, 0, 4, 6, NOTHING);
            placingRefused(name + "fewer told", judged, 0, 2, 4, BAD);
            placingRefused(name + "fewer sorts", judged, 2, 0, 4, BAD);
            placingRefused(name + "no sort", judged, 2, 0, 1, BAD);
            for (int far : FAR_OUT) {
                placingRefused(name + "far s", judged, far, 1, 1, BAD);
                placingRefused(name + "far t", judged, 0, far, 1, BAD);
                placingRefused(name + "far k", judged, 0, 1, far, BAD);
            }
        }
        due("put of none", x.put(0, 1, 0), 0);
        due("put", x.put(0, 1, 4), 4);
        due("full small", x.status(4), 1);
        due("full middle", x.status(5), 1);
        due("full large", x.status(6), 2);
        due("not in truth", x.day(1), 0);
        Scenes.fill(x, 5, 3, -1, 0);
        due("put in none", x.put(0, 5, 2), 0);
        due("now it is wrong", x.judge(0, 5, 3), 2);
        due("all full", x.state(0), 0);
    }

    private static void placingRefused(String call, boolean judged, int s, int t, int k, int number) {
        Check.refuses(PromiseTest::placings, call, o -> judged ? o.judge(s, t, k) : o.put(s, t, k), number);
    }

    private static void promise29() {
        ThreeSizes x = new ThreeSizes();
        x.sort(1, 100, 10, 5);
        x.size(1, 1, 2);
        due("no wall", x.build(0, 5, 0), 0);
        due("no room for a middle one", x.build(1, 5, 0), 0);
        due("one middle one", x.build(2, 5, 0), 5);
        due("one middle one takes", x.build(3, 5, 1), 2);
        due("one hour: one is enough", x.build(30, 1, 0), 5);
        due("one hour: takes 2", x.build(30, 1, 1), 2);
        due("no hours", x.build(30, 0, 0), 0);
        due("two hours: two", x.build(30, 2, 0), 10);
        due("two hours in 5: two", x.build(5, 2, 0), 10);
        due("as it was", x.status(2) * 10 + x.status(5), 22);
        ThreeSizes y = new ThreeSizes();
        y.sort(2, 100, 10, 5);
        due("a large one", y.build(28, 1, 0), 25);
        due("takes", y.build(28, 1, 1), 4);
        due("seven hours and all the wall", y.build(30, 24, 0), 100);
        y.size(2, 2, 10);
        due("fetched at once: one is enough", y.build(30, 24, 0), 25);
        Check.refuses(PromiseTest::oneSort, "wall 31", o -> o.build(31, 1, 0), BAD);
        Check.refuses(PromiseTest::oneSort, "25 hours", o -> o.build(1, 25, 0), BAD);
        Check.refuses(PromiseTest::oneSort, "what 2", o -> o.build(1, 1, 2), BAD);
        for (int far : FAR_OUT) {
            Check.refuses(PromiseTest::oneSort, "build(far, 1, 0)", o -> o.build(far, 1, 0), BAD);
            Check.refuses(PromiseTest::oneSort, "build(1, far, 0)", o -> o.build(1, far, 0), BAD);
            Check.refuses(PromiseTest::oneSort, "build(1, 1, far)", o -> o.build(1, 1, far), BAD);
        }
    }

    private static void promises30and31() {
        ThreeSizes x = Scenes.oneBox();
        due("the only box", x.worth(0, 1), 15000000);
        due("the only box, two hours", x.worth(0, 2), 9500000 + 10000000);
        due("its price: it could be fetched", x.price(0, 1), 10500000);
        due("its price of two hours", x.price(0, 2), 9500000 - (-500000 - 500000));
        due("of no hours", x.worth(0, 0) + x.price(0, 0), 0);
        due("as it was", x.status(1) * 10 + x.status(4), 10);
        Check.refuses(Scenes::oneBox, "worth of none free", o -> o.worth(1, 1), Check.FAR, STUCK);
        Check.refuses(Scenes::oneBox, "price of none free", o -> o.price(1, 1), Check.FAR, STUCK);
        Check.refuses(Scenes::oneFullBox, "worth of a full one", o -> o.worth(0, 1), Check.FAR, STUCK);
        Check.refuses(Scenes::oneFullBox, "price of a full one", o -> o.price(0, 1), Check.FAR, STUCK);
        Check.refuses(Scenes::oneFullBox, "worth, BAD ahead", o -> o.worth(0, 25), Check.FAR, BAD);
        Check.refuses(Scenes::oneFullBox, "price, BAD ahead", o -> o.price(0, 25), Check.FAR, BAD);
        Check.refuses(Scenes::oneFullBox, "worth of size 3", o -> o.worth(3, 1), Check.FAR, BAD);
        Check.refuses(Scenes::oneFullBox, "price of size 3", o -> o.price(3, 1), Check.FAR, BAD);
        for (int far : FAR_OUT) {
            Check.refuses(Scenes::oneFullBox, "worth(far, 1)", o -> o.worth(far, 1), Check.FAR, BAD);
            Check.refuses(Scenes::oneFullBox, "worth(0, far)", o -> o.worth(0, far), Check.FAR, BAD);
            Check.refuses(Scenes::oneFullBox, "price(far, 1)", o -> o.price(far, 1), Check.FAR, BAD);
            Check.refuses(Scenes::oneFullBox, "price(0, far)", o -> o.price(0, far), Check.FAR, BAD);
        }
    }

    private static void promises32and33() {
        ThreeSizes x = Scenes.scarce();
        due("the small one brings", x.brings(0, 1), 1000000);
        due("the large one brings", x.brings(1, 1), 25000000);
        due("of two hours", x.brings(0, 2), 38000000 - 37500000);
        due("of no hours", x.brings(0, 0), 0);
        due("as it was", x.sortOf(0, 1), 50);
        Check.refuses(Scenes::scarce, "brings of no sort", o -> o.brings(2, 1), Check.FAR, BAD);
        Check.refuses(Scenes::scarce, "brings of 25 hours", o -> o.brings(0, 25), Check.FAR, BAD);
        ThreeSizes y = new ThreeSizes();
        for (int size = 0; size < 3; size++) {
            y.sort(size, 0, 1, 0);
        }
        due("fits", y.fits(0) * 100 + y.fits(1) * 10 + y.fits(2), 764);
        y.size(1, 1, 2);
        due("fits", y.fits(0) * 100 + y.fits(1) * 10 + y.fits(2), 544);
        y.size(2, 1, 2);
        due("fits", y.fits(0) * 100 + y.fits(1) * 10 + y.fits(2), 100);
        Check.refuses(Scenes::threeSorts, "fits of no sort", o -> o.fits(3), BAD);
        for (int far : FAR_OUT) {
            Check.refuses(Scenes::scarce, "brings(far, 1)", o -> o.brings(far, 1), Check.FAR, BAD);
            Check.refuses(Scenes::scarce, "brings(0, far)", o -> o.brings(0, far), Check.FAR, BAD);
            Check.refuses(Scenes::threeSorts, "fits(far)", o -> o.fits(far), BAD);
        }
    }

    private static ThreeSizes noLargeOneFree() {
        ThreeSizes x = oneSort();
        x.size(2, 1, 2);
        return x;
    }

    private static void promises34and35() {
        ThreeSizes x = new ThreeSizes();
        due("no sorts: all alike, the least", x.worst(3), 0);
        x.sort(0, 50, 10, 5);
        due("nothing free", x.worst(3), 0);
        x.size(1, 2, 10);
        due("a middle one fetched at once: all alike", x.worst(1), 0);
        due("as it was", x.state(2), 62);
        ThreeSizes y = Scenes.oneBox();
        y.size(0, 1, 0);
        due("worst", y.worst(2), 0);
        Check.refuses(Scenes::oneBox, "worst of 25 hours", o -> o.worst(25), BAD);
        ThreeSizes b = new ThreeSizes();
        Scenes.boxes(b, 0, 0, 1);
        b.sort(0, 100, 10, 5);
        b.size(2, 2, 0);
        b.size(0, 2, 0);
        due("one large one for three small ones, one hour", b.board(1), 0);
        due("two hours: 20 for 5", b.board(2), 15000000);
        due("three hours: 30 for 0", b.board(3), 30000000);
        due("four hours: 25 for -5", b.board(4), 30000000);
        b.size(0, 0, 2);
        due("four at most: 40 for 25", b.board(4), 40000000 - 25000000);
        b.size(0, 1, 2);
        due("two of the four are full", b.board(4), 10000000 - -5000000);
        ThreeSizes c = new ThreeSizes();
        c.sort(2, 100, 10, 5);
        Scenes.boxes(c, 4, 0, 1);
        due("a large one is missed", c.board(1), -15000000);
        due("as it was", c.status(1) * 10 + c.status(3), 41);
        Check.refuses(PromiseTest::noLargeOneFree, "no large one is free", o -> o.board(1), Check.FAR, STUCK);
        Check.refuses(PromiseTest::noLargeOneFree, "BAD ahead", o -> o.board(25), Check.FAR, BAD);
        for (int far : FAR_OUT) {
            Check.refuses(Scenes::oneBox, "worst(far)", o -> o.worst(far), BAD);
            Check.refuses(PromiseTest::noLargeOneFree, "board(far)", o -> o.board(far), Check.FAR, BAD);
        }
    }

    private static void promises36and37() {
        ThreeSizes x = Scenes.oneBox();
        due("nothing to be fetched", x.letter(0, 1), 0);
        due("for whom", x.whom(1), NONE);
        x.size(0, 1, 1);
        due("by 6 of 10", x.letter(0, 1), 4500000);
        due("two hours: FREE or FULL, FULL after it", x.letter(0, 2), 4500000);
        due("for whom", x.whom(1), 0);
        due("none of that size", x.letter(1, 1), 0);
        x.size(0, 2, 9);
        due("10 at most", x.letter(0, 1), 1500000);
        x.size(0, 2, 10);
        due("10 already", x.letter(0, 1), 0);
        due("none brings more than 0", x.whom(1), NONE);
        due("as it was", x.size(0, 2, 10), 10);
        ThreeSizes y = new ThreeSizes();
        y.sort(0, 100, 10, 5);
        Scenes.boxes(y, 0, 1, 1);
        y.size(1, 1, 1);
        y.size(2, 1, 1);
        due("of several the least", y.whom(1), 1);
        y.size(1, 2, 2);
        y.size(2, 2, 8);
        due("none is fetched by 16 of 100, or 10", y.letter(1, 1), 900000);
        due("none is fetched by 16 of 100, or 0", y.letter(2, 1), 2400000);
        due("for the one that brings most", y.whom(1), 2);
        ThreeSizes z = new ThreeSizes();
        z.sort(2, 100, 10, 5);
        Scenes.boxes(z, 1, 1, 1);
        z.size(0, 1, 1);
        z.size(2, 1, 1);
        due("a small one is of no use", z.letter(0, 1), 0);
        due("the large one is", z.whom(1), 2);
        Check.refuses(Scenes::oneFullBox, "letter of no hours", o -> o.letter(0, 0), Check.FAR, BAD);
        Check.refuses(Scenes::oneFullBox, "letter of 25 hours", o -> o.letter(0, 25), Check.FAR, BAD);
        Check.refuses(Scenes::oneFullBox, "letter of size 3", o -> o.letter(3, 1), Check.FAR, BAD);
        Check.refuses(Scenes::oneFullBox, "whom of no hours", o -> o.whom(0), BAD);
        Check.refuses(Scenes::oneFullBox, "whom of 25 hours", o -> o.whom(25), BAD);
        for (int far : FAR_OUT) {
            Check.refuses(Scenes::oneFullBox, "letter(far, 1)", o -> o.letter(far, 1), Check.FAR, BAD);
            Check.refuses(Scenes::oneFullBox, "letter(0, far)", o -> o.letter(0, far), Check.FAR, BAD);
            Check.refuses(Scenes::oneFullBox, "whom(far)", o -> o.whom(far), BAD);
        }
    }

    private static ThreeSizes fiftyHundredths() {
        ThreeSizes x = new ThreeSizes();
        x.sort(0, 30, 10, 5);
        x.sort(1, 20, 20, 5);
        return x;
    }

    private static void promise38() {
        ThreeSizes x = new ThreeSizes();
        due("no sorts", x.feast(50, 3), 0);
        x = fiftyHundredths();
        due("one hour", x.feast(10, 1), 1000000 + 2000000);
        due("25 each is just right", x.feast(25, 1), 2500000 + 5000000);
        due("none more", x.feast(0, 5), 0);
        due("of no hours", x.feast(25, 0), 0);
        due("as it was", x.sortOf(0, 1) + x.sortOf(1, 1), 50);
        Check.refuses(PromiseTest::fiftyHundredths, "past 100", o -> o.feast(26, 1), Check.FAR, STUCK);
        Check.refuses(PromiseTest::fiftyHundredths, "BAD ahead", o -> o.feast(26, 25), Check.FAR, BAD);
        Check.refuses(PromiseTest::fiftyHundredths, "51", o -> o.feast(51, 1), Check.FAR, BAD);
        for (int far : FAR_OUT) {
            Check.refuses(PromiseTest::fiftyHundredths, "feast(far, 1)", o -> o.feast(far, 1), Check.FAR, BAD);
            Check.refuses(PromiseTest::fiftyHundredths, "feast(1, far)", o -> o.feast(1, far), Check.FAR, BAD);
        }
    }

    /** SHELF 0: a LEAST; 1: a ROW. */
    private static ThreeSizes twentyHoursOld() {
        ThreeSizes x = Scenes.oneBox();
        x.rule(0, 1, 0);
        x.row(1, 0, 1);
        x.go(0, 20);
        return x;
    }

    private static void promises39to41() {
        ThreeSizes x = new ThreeSizes();
        x.rule(0, 1, 0);
        due("an hour with no sorts", x.go(0, 1), 0);
        due("one draw", x.seed(1), 1103515245 + 12345);
        due("the seed ahead", x.seed(-5), 1);
        due("hours", x.day(0), 1);
        // a parcel that comes for sure and never fits: two draws an hour
        Scenes.boxes(x, 0, 0, 0);
        x.sort(1, 100, 9, 4);
        x.ask(0, 5);
        x.ask(1, 20);
        int[] seed = {-5};
        int sum = 0;
        int near = 0;
        for (int hour = 0; hour < 200; hour++) {
            Scenes.drawn(seed, 100);
            boolean isNear = Scenes.drawn(seed, 10) < 5;
            near += isNear ? 1 : 0;
            sum += isNear ? 9 - 20 : -4;
        }
        due("200 hours", x.go(0, 200), sum);
        due("hours", x.day(0), 201);
        due("none got a box", x.day(1), 0);
        due("near", x.day(2), near);
        due("back", x.day(3), 200 - near);
        due("none fetched", x.day(4), 0);
        due("taken less paid", x.day(5), sum);
        due("the seed", x.status(8), seed[0]);
        promise39WithBoxes();
        Check.refuses(PromiseTest::twentyHoursOld, "go by no shelf", o -> o.go(8, 1), Check.BELOW, BAD);
        Check.refuses(PromiseTest::twentyHoursOld, "no hours", o -> o.go(1, 0), Check.BELOW, BAD);
        Check.refuses(PromiseTest::twentyHoursOld, "201 hours", o -> o.go(2, 201), Check.BELOW, BAD);
        Check.refuses(PromiseTest::twentyHoursOld, "go by a row", o -> o.go(1, 1), Check.BELOW, OTHER);
        Check.refuses(PromiseTest::twentyHoursOld, "go by nothing", o -> o.go(2, 1), Check.BELOW, NOTHING);
        Check.refuses(PromiseTest::twentyHoursOld, "day 6", o -> o.day(6), Check.BELOW, BAD);
        for (int far : FAR_OUT) {
            Check.refuses(PromiseTest::twentyHoursOld, "go(far, 1)", o -> o.go(far, 1), Check.BELOW, BAD);
            Check.refuses(PromiseTest::twentyHoursOld, "go(0, far)", o -> o.go(0, far), Check.BELOW, BAD);
            Check.refuses(PromiseTest::twentyHoursOld, "day(far)", o -> o.day(far), Check.BELOW, BAD);
        }
    }

    /** Two sorts for the small and the large boxes, both sizes fetched; the same hours once more, drawn here. */
    private static void promise39WithBoxes() {
        ThreeSizes x = new ThreeSizes();
        Scenes.boxes(x, 1, 0, 1);
        x.size(0, 2, 4);
        x.size(2, 2, 6);
        x.sort(0, 35, 3, 1);
        x.sort(2, 40, 8, 2);
        x.rule(0, 2, 1);
        int[] seed = {1};
        int sum = 0;
        int got = 0;
        int fetched = 0;
        boolean small = false;
        boolean large = false;
        for (int hour = 0; hour < 150; hour++) {
            if (small && Scenes.drawn(seed, 10) < 4) {
                small = false;
                fetched++;
            }
            if (large && Scenes.drawn(seed, 10) < 6) {
                large = false;
                fetched++;
            }
            int came = Scenes.drawn(seed, 100);
            if (came < 75) {
                boolean first = came < 35;
                if (first ? small : large) {
                    Scenes.drawn(seed, 10);
                    sum -= first ? 1 : 2;
                } else {
                    small |= first;
                    large |= !first;
                    got++;
                    sum += first ? 3 : 8;
                }
            }
        }
        due("150 hours with boxes", x.go(0, 100) + x.go(0, 50), sum);
        due("got a box", x.day(1), got);
        due("fetched", x.day(4), fetched);
        due("taken less paid", x.day(5), sum);
        due("full small", x.status(4), small ? 1 : 0);
        due("full large", x.status(6), large ? 1 : 0);
        due("the seed", x.seed(7), seed[0]);
        due("the new seed", x.status(8), 7);
    }

    private static void promises42and43() {
        ThreeSizes x = new ThreeSizes();
        Check.refuses(PromiseTest::oneSort, "nothing was kept", ThreeSizes::back, STUCK);
        due("nothing was kept", x.back(), STUCK);
        Check.wall(x, "box 0 3;goes 1 7;near 3;way 8;sort 0 comes 30;sort 2 comes 50 worth 7");
        x.size(2, 1, 1);
        x.rule(0, 1, 0);
        x.go(0, 30);
        String kept = Check.told(x);
        due("image", x.image(), 1);
        for (int round = 0; round < 2; round++) {
            x.go(0, 40);
            x.seed(round);
            Check.wall(x, "box 0 4;goes 1 2;near 9;way 9;sort 1 comes 10");
            x.size(1, 1, 2);
            x.size(0, 1, 1);
            due("back", x.back(), 1);
            Check.same("all is as it was", Check.told(x), kept);
        }
        x.row(1, 2, 3);
        x.rule(0, 4, 9);
        x.feed(1, 3);
        x.state(9);
        due("back", x.back(), 1);
        due("shelves stay", x.holds(0) * 100 + x.holds(1), 1402);
        due("the tape stays", x.status(7), 3);
        due("refusals stay", x.status(12), 1);
        due("stuck stay", x.status(15), 1);
        x.ask(0, 1);
        due("image again", x.image(), 1);
        x.ask(0, 2);
        x.back();
        due("the later one", x.status(10), 1);
    }

    private static void promise44() {
        ThreeSizes x = new ThreeSizes();
        Check.wall(x, "box 0 1;box 1 3;box 2 4;near 6;way 7;sort 0 comes 1;sort 1 comes 1");
        x.size(0, 1, 1);
        x.size(1, 1, 2);
        x.size(2, 1, 3);
        x.feed(0, 4);
        x.seed(99);
        x.row(0, 0, 0);
        x.rule(5, 1, 1);
        int[] due = {2, 1, 3, 4, 1, 2, 3, 4, 99, 2, 6, 7};
        for (int i = 0; i < due.length; i++) {
            due("status(" + i + ")", x.status(i), due[i]);
        }
        x.lost(7);
        x.set(5, 0, 0);
        x.value(0, 1);
        x.go(0, 1);
        x.copy(0, 1, 0, 0, 0);
        x.go(1, 1);
        x.back();
        x.worth(0, 1);
        x.size(0, 0, 0);
        x.feast(50, 1);
        for (int i = 0; i < 50; i++) {
            x.feed(0, 4);
        }
        int[] refused = {1, 3, 2, 4, 1};
        for (int i = 0; i < 5; i++) {
            due("status(" + (12 + i) + ")", x.status(12 + i), refused[i]);
        }
        due("status(17)", x.status(17), NONE);
        for (int far : FAR_OUT) {
            due("status(far)", x.status(far), NONE);
        }
        due("that is not refused", x.status(12), 1);
    }

    public static void main(String[] args) {
        promise1();
        promise2();
        promise3();
        promise4();
        promises5and6();
        promise7();
        promise8();
        promise9();
        promises10and12();
        promise11();
        promise13();
        promises14and15();
        promise16();
        promise17();
        promise18();
        promise19();
        promises20and21();
        promises22and23();
        promises24and25();
        promise26();
        promises27and28();
        promise29();
        promises30and31();
        promises32and33();
        promises34and35();
        promises36and37();
        promise38();
        promises39to41();
        promises42and43();
        promise44();
        Check.end("PromiseTest");
    }
}
