import java.util.function.ToLongFunction;

/** Terms, REFUSALS: every call that can be refused, by every number it has, and that nothing else comes of it. */
final class EdgesOfRefusals {
    private static final int BAD = Check.BAD;
    private static final int OTHER = Check.OTHER;
    private static final int NOTHING = Check.NOTHING;
    private static final int STUCK = Check.STUCK;
    private static final int FULL = Check.FULL;

    private EdgesOfRefusals() {
    }

    private static void busy(String call, ToLongFunction<ThreeSizes> what, int number) {
        Check.refuses(Scenes::busy, call, what, number);
    }

    private static void busyFar(String call, ToLongFunction<ThreeSizes> what, int number) {
        Check.refuses(Scenes::busy, call, what, Check.FAR, number);
    }

    private static void nothingChanges() {
        Doc.quote(Doc.TERMS, "REFUSALS (the call answers the number; nothing changes but how many there were;");
        busy("row", x -> x.row(0, 5, 1), BAD);
        busy("set", x -> x.set(0, 8, 1), BAD);
        busy("set", x -> x.set(2, 0, 1), OTHER);
        busy("set", x -> x.set(3, 0, 1), NOTHING);
        busy("copy", x -> x.copy(0, 0, 1, 2, 7), BAD);
        busy("copy", x -> x.copy(0, 1, 1, 2, 1), OTHER);
        busy("copy", x -> x.copy(0, 3, 1, 2, 1), NOTHING);
        busy("rule", x -> x.rule(2, 7, 1), BAD);
        busy("says", x -> x.says(2, 7), BAD);
        busy("says", x -> x.says(2, 3), OTHER);
        busy("says", x -> x.says(3, 0), NOTHING);
        busy("size", x -> x.size(0, 2, 11), BAD);
        busy("size", x -> x.size(1, 0, 1), STUCK);
        busy("sort", x -> x.sort(0, 1, 0, 1), BAD);
        busy("sort", x -> x.sort(0, 49, 1, 1), STUCK);
        Check.refuses(Scenes::crowded, "sort", x -> x.sort(0, 0, 1, 1), FULL);
        busy("sorts", x -> x.sorts(0, 6), BAD);
        busy("sorts", x -> x.sorts(2, 4), OTHER);
        busy("sorts", x -> x.sorts(3, 4), NOTHING);
        busy("sortOf", x -> x.sortOf(4, 0), BAD);
        busy("ask", x -> x.ask(0, 11), BAD);
        busy("feed", x -> x.feed(0x39393939, 5), BAD);
        Check.refuses(Scenes::crowded, "feed", x -> x.feed(0x39393939, 1), FULL);
        busy("state", x -> x.state(3), BAD);
        busy("gets", x -> x.gets(2, 0, 4), BAD);
        busy("gets", x -> x.gets(0, 0, 0), OTHER);
        busy("gets", x -> x.gets(3, 0, 0), NOTHING);
        busy("now", x -> x.now(4, 1), BAD);
        busy("head", x -> x.head(25), BAD);
        Check.refuses(ThreeSizes::new, "head", x -> x.head(1), STUCK);
        busy("keep", x -> x.keep(25), BAD);
        busy("judge", x -> x.judge(0, 1, 7), BAD);
        busy("judge", x -> x.judge(0, 2, 1), OTHER);
        busy("judge", x -> x.judge(0, 3, 1), NOTHING);
        busy("put", x -> x.put(0, 1, 7), BAD);
        busy("put", x -> x.put(0, 2, 1), OTHER);
        busy("put", x -> x.put(0, 3, 1), NOTHING);
        // FREE 2 0 3: the first of the CARTFUL gets its box, the third no middle one
        Check.refuses(EdgesOfRefusals::wrongAtLast, "put", x -> x.put(0, 1, 3), STUCK);
        busy("build", x -> x.build(31, 1, 0), BAD);
        busy("fits", x -> x.fits(4), BAD);
        busy("worst", x -> x.worst(25), BAD);
        busy("whom", x -> x.whom(0), BAD);
        Check.refuses(ThreeSizes::new, "back", ThreeSizes::back, STUCK);
    }

    private static ThreeSizes wrongAtLast() {
        ThreeSizes x = Scenes.busy();
        Scenes.fill(x, 0, 0, 1, 2);
        Scenes.fill(x, 1, 2, 0, 1);
        return x;
    }

    private static void farBelow() {
        Doc.quote(Doc.TERMS, "(VALUES may be below 0: calls that tell such answer -1000000000000 and the number instead.)");
        busyFar("lost", x -> x.lost(4), BAD);
        busyFar("value", x -> x.value(2, 25), BAD);
        busyFar("value", x -> x.value(0, 1), OTHER);
        busyFar("value", x -> x.value(3, 1), NOTHING);
        busyFar("best", x -> x.best(25), BAD);
        busyFar("gap", x -> x.gap(2, 25), BAD);
        busyFar("gap", x -> x.gap(0, 1), OTHER);
        busyFar("gap", x -> x.gap(3, 1), NOTHING);
        busyFar("cart", x -> x.cart(0, 7, 1, -1), BAD);
        busyFar("cart", x -> x.cart(2, 1, 1, -1), OTHER);
        busyFar("cart", x -> x.cart(3, 1, 1, -1), NOTHING);
        busyFar("worth", x -> x.worth(3, 1), BAD);
        busyFar("worth", x -> x.worth(1, 1), STUCK);
        busyFar("price", x -> x.price(3, 1), BAD);
        busyFar("price", x -> x.price(1, 1), STUCK);
        busyFar("brings", x -> x.brings(4, 1), BAD);
        busyFar("board", x -> x.board(25), BAD);
        Check.refuses(Scenes::crowded, "board", x -> x.board(1), Check.FAR, STUCK);
        busyFar("letter", x -> x.letter(0, 0), BAD);
        busyFar("feast", x -> x.feast(51, 1), BAD);
        busyFar("feast", x -> x.feast(13, 1), STUCK);
        Check.refuses(Scenes::busy, "go", x -> x.go(2, 0), Check.BELOW, BAD);
        Check.refuses(Scenes::busy, "go", x -> x.go(0, 1), Check.BELOW, OTHER);
        Check.refuses(Scenes::busy, "go", x -> x.go(3, 1), Check.BELOW, NOTHING);
        Check.refuses(Scenes::busy, "day", x -> x.day(6), Check.BELOW, BAD);
    }

    /** Calls to which all refusals of their line fit, or as many as can: the first of the line is told. */
    private static void theFirstThatFits() {
        Doc.quote(Doc.TERMS, "the first that fits as each line has them):");
        busy("set: SHELF ahead of i", x -> x.set(8, 99, 1), BAD);
        busy("set: OTHER ahead of i", x -> x.set(2, 99, 1), OTHER);
        busy("set: NOTHING ahead of i", x -> x.set(3, 99, 1), NOTHING);
        busy("copy: SHELVES ahead of OTHER", x -> x.copy(2, 8, 9, 9, -1), BAD);
        busy("copy: OTHER ahead of NOTHING", x -> x.copy(3, 2, 9, 9, -1), OTHER);
        busy("copy: NOTHING ahead of the others", x -> x.copy(3, 0, 9, 9, -1), NOTHING);
        busy("says: KIND ahead of OTHER", x -> x.says(0, 7), BAD);
        busy("says: KIND ahead of NOTHING", x -> x.says(3, 7), BAD);
        Check.refuses(EdgesOfRefusals::noSorts, "says: OTHER ahead of STUCK", x -> x.says(0, 4), OTHER);
        Check.refuses(EdgesOfRefusals::noSorts, "says: NOTHING ahead of STUCK", x -> x.says(1, 4), NOTHING);
        busy("size: BAD ahead of STUCK", x -> x.size(0, 1, 5), BAD);
        Check.refuses(Scenes::crowded, "sort: BAD ahead of STUCK and FULL", x -> x.sort(0, 99, 0, 1), BAD);
        Check.refuses(Scenes::crowded, "sort: STUCK ahead of FULL", x -> x.sort(0, 99, 1, 1), STUCK);
        busy("sorts: SHELF ahead of n", x -> x.sorts(8, 3), BAD);
        busy("sorts: OTHER ahead of n", x -> x.sorts(2, 3), OTHER);
        busy("sorts: NOTHING ahead of n", x -> x.sorts(3, 3), NOTHING);
        Check.refuses(Scenes::crowded, "feed: BAD ahead of FULL", x -> x.feed(0, 5), BAD);
        busy("gets: BAD ahead of OTHER", x -> x.gets(0, 4, 4), BAD);
        busy("gets: BAD ahead of NOTHING", x -> x.gets(3, 4, 4), BAD);
        busyFar("value: BAD ahead of OTHER", x -> x.value(0, 25), BAD);
        busyFar("gap: BAD ahead of NOTHING", x -> x.gap(3, 25), BAD);
        Check.refuses(ThreeSizes::new, "head: BAD ahead of STUCK", x -> x.head(25), BAD);
        busyFar("cart: BAD ahead of OTHER", x -> x.cart(2, 2, 1, 2), BAD);
        busy("put: k ahead of OTHER", x -> x.put(2, 3, 7), BAD);
        busy("put: OTHER ahead of NOTHING", x -> x.put(3, 2, 6), OTHER);
        busy("put: NOTHING ahead of fewer elements", x -> x.put(6, 3, 6), NOTHING);
        busyFar("worth: BAD ahead of STUCK", x -> x.worth(1, 25), BAD);
        busyFar("feast: BAD ahead of STUCK", x -> x.feast(50, 25), BAD);
        Check.refuses(Scenes::busy, "go: BAD ahead of OTHER", x -> x.go(0, 201), Check.BELOW, BAD);
    }

    private static ThreeSizes noSorts() {
        ThreeSizes x = new ThreeSizes();
        x.rule(0, 1, 7);
        return x;
    }

    static void run() {
        nothingChanges();
        farBelow();
        theFirstThatFits();
    }
}
