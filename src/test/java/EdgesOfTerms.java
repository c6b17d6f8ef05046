/** Terms, first part: what a wall and its SORTS may be, sentence by sentence, on both sides of each bound. */
final class EdgesOfTerms {
    private static final int NONE = ThreeSizes.NONE;

    private EdgesOfTerms() {
    }

    private static void due(String call, long got, long want) {
        Check.due(call, got, want);
    }

    private static void sizes() {
        Doc.quote(Doc.TERMS, "SIZES are 0 (small), 1 (middle), 2 (large).");
        Check.bounds(Scenes::busy, "size(v, 2, 1)", 0, 2, (x, v) -> x.size(v, 2, 1));
        Check.bounds(ThreeSizes::new, "sort(v, 1, 1, 1)", 0, 2, (x, v) -> x.sort(v, 1, 1, 1));
        Check.bounds(Scenes::oneFullBox, "letter(v, 1)", 0, 2, (x, v) -> x.letter(v, 1), Check.FAR);
        Check.bounds(ThreeSizes::new, "worth(v, 1)", 0, 2, (x, v) -> x.worth(v, 1), Check.FAR);
        Check.bounds(ThreeSizes::new, "price(v, 1)", 0, 2, (x, v) -> x.price(v, 1), Check.FAR);
    }

    private static void boxes() {
        Doc.quote(Doc.TERMS, "BOXES of each SIZE: 0 to 4 (2 of each at first)");
        ThreeSizes x = new ThreeSizes();
        for (int size = 0; size < 3; size++) {
            int z = size;
            due("BOXES at first", x.status(1 + size), 2);
            due("BOXES at first, as they were", x.size(size, 0, 4), 2);
            due("four", x.status(1 + size), 4);
            due("none", x.size(size, 0, 0) * 10 + x.status(1 + size), 40);
            Check.bounds(ThreeSizes::new, "BOXES of " + size, 0, 4, (y, v) -> y.size(z, 0, v));
        }
        due("no boxes at all: THE STATE", x.state(2), 0);
        Scenes.boxes(x, 4, 4, 4);
        due("twelve boxes: THE STATE", x.state(2), 124);
    }

    private static void full() {
        Doc.quote(Doc.TERMS, "how many of them are FULL (0 at first); the others are FREE.");
        ThreeSizes x = new ThreeSizes();
        for (int size = 0; size < 3; size++) {
            due("FULL at first", x.status(4 + size), 0);
            due("FULL at first, as it was", x.size(size, 1, 0), 0);
        }
        due("all are FREE at first", x.state(0), 6);
        Scenes.full(x, 2, 2, 2);
        due("all FULL: FREE", x.state(0), 0);
        due("all FULL: FULL", x.state(1), 6);
        x.size(1, 1, 1);
        due("all but one: FREE", x.state(0), 1);
        due("all but one: THE STATE", x.state(2), 5);
    }

    private static void goes() {
        Doc.quote(Doc.TERMS, "GOES of a SIZE: by how many tenths in an HOUR one of its FULL boxes is fetched");
        for (int goes = 0; goes <= 10; goes++) {
            ThreeSizes x = Scenes.oneFullBox();
            x.size(0, 2, goes);
            due("GOES " + goes + ": what an HOUR brings", x.best(1), 1500000L * goes - 5000000);
        }
        Doc.quote(Doc.TERMS, "0 to 10; 3 at first;");
        for (int size = 0; size < 3; size++) {
            int z = size;
            due("GOES at first", new ThreeSizes().size(size, 2, 0), 3);
            Check.bounds(Scenes::busy, "GOES of " + size, 0, 10, (x, v) -> x.size(z, 2, v));
        }
    }

    private static void oneAnHour() {
        Doc.quote(Doc.TERMS, "one at most an HOUR, and only if there is a FULL one).");
        for (int size = 0; size < 3; size++) {
            ThreeSizes x = new ThreeSizes();
            x.rule(0, 1, 0);
            x.size(size, 0, 4);
            x.size(size, 1, 4);
            x.size(size, 2, 10);
            x.go(0, 1);
            due("one of four in the first HOUR", x.status(4 + size), 3);
            x.go(0, 3);
            due("the last in the fourth", x.status(4 + size) * 10 + x.day(4), 4);
            x.go(0, 1);
            due("then there is none", x.status(4 + size) * 10 + x.day(4), 4);
            x.size(size, 1, 4);
            x.size(size, 2, 0);
            x.go(0, 200);
            due("GOES 0: never", x.status(4 + size) * 10 + x.day(4), 44);
        }
        ThreeSizes y = Scenes.oneBox();
        y.size(0, 0, 2);
        y.size(0, 1, 2);
        y.size(0, 2, 5);
        due("of two FULL ones one by 5 tenths, in VALUE, too", y.best(1), 2500000);
        y.size(0, 1, 0);
        due("none is FULL: GOES is for nothing", y.best(1), 10000000);
    }

    private static void sorts() {
        Doc.quote(Doc.TERMS, "SORTS have numbers, 0 on, 6 at most: a SIZE that it needs,");
        ThreeSizes x = new ThreeSizes();
        for (int i = 0; i < 6; i++) {
            due("the number of a SORT", x.sort(i % 3, 1, 1, 1), i);
            due("its SIZE", x.sortOf(i, 0), i % 3);
        }
        due("a seventh", x.sort(0, 1, 1, 1), Check.FULL);
        due("still six", x.status(0), 6);
        due("the last one is there", x.sortOf(5, 1), 1);
        due("there is no seventh", x.sortOf(6, 1), Check.BAD);
    }

    private static void numbersOfSorts() {
        Doc.quote(Doc.TERMS, "COMES (0 to 100 hundredths an HOUR;");
        Check.bounds(ThreeSizes::new, "sort(0, v, 1, 1)", 0, 100, (x, v) -> x.sort(0, v, 1, 1));
        ThreeSizes never = new ThreeSizes();
        never.sort(0, 0, 99, 99);
        never.rule(0, 1, 0);
        due("COMES 0: nothing comes", never.go(0, 200), 0);
        due("COMES 0: nothing is brought", never.best(24), 0);
        ThreeSizes always = Scenes.oneBox();
        always.rule(0, 1, 0);
        always.go(0, 200);
        due("COMES 100: one an HOUR", always.day(1) + always.day(2) + always.day(3), 200);
    }

    private static void together() {
        Doc.quote(Doc.TERMS, "of all SORTS together 100 at most),");
        ThreeSizes x = new ThreeSizes();
        due("99 hundredths", x.sort(0, 99, 1, 1), 0);
        due("101 together", x.sort(0, 2, 1, 1), Check.STUCK);
        due("100 together", x.sort(0, 1, 1, 1), 1);
        due("101 together", x.sort(0, 1, 1, 1), Check.STUCK);
        due("still 100 together", x.sort(0, 0, 1, 1), 2);
    }

    private static void worthAndBack() {
        Doc.quote(Doc.TERMS, "a WORTH (1 to 99) if it gets a box,");
        Check.bounds(ThreeSizes::new, "sort(0, 1, v, 1)", 1, 99, (x, v) -> x.sort(0, 1, v, 1));
        for (int worth : new int[] {1, 99}) {
            ThreeSizes x = new ThreeSizes();
            x.sort(0, 100, worth, 50);
            due("it gets a box", x.best(1), 1000000L * worth);
        }
        Doc.quote(Doc.TERMS, "BACK (0 to 99) that it costs if it goes back.");
        Check.bounds(ThreeSizes::new, "sort(0, 1, 1, v)", 0, 99, (x, v) -> x.sort(0, 1, 1, v));
        for (int back : new int[] {0, 99}) {
            ThreeSizes x = new ThreeSizes();
            Scenes.boxes(x, 0, 0, 0);
            x.sort(0, 100, 50, back);
            due("it goes back", x.best(1), -1000000L * back);
        }
    }

    private static ThreeSizes oneFree(int size) {
        ThreeSizes x = Scenes.threeSorts();
        Scenes.full(x, 2, 2, 2);
        x.size(size, 1, 1);
        for (int kind = 1; kind <= 6; kind++) {
            x.rule(kind, kind, 0);
        }
        return x;
    }

    private static void fits() {
        Doc.quote(Doc.TERMS, "It FITS into boxes of its SIZE and greater ones.");
        int[] state = {1, 5, 25};
        for (int size = 0; size < 3; size++) {
            for (int sort = 0; sort < 3; sort++) {
                ThreeSizes x = oneFree(size);
                boolean does = size >= sort;
                String what = "a SORT of SIZE " + sort + ", a FREE box of SIZE " + size;
                due(what + ": fits", x.fits(sort), does ? 1 << size : 0);
                for (int kind = 1; kind <= 6; kind++) {
                    due(what + ": gets by " + kind, x.gets(kind, sort, state[size]), does ? size : NONE);
                }
                due(what + ": now", x.now(sort, 0), does ? size : NONE);
                Scenes.fill(x, 0, sort);
                Scenes.fill(x, 7, size);
                due(what + ": cart", x.cart(0, 1, 0, 0), does ? size : NONE);
                due(what + ": judge", x.judge(0, 7, 1), does ? NONE : 0);
            }
        }
    }

    private static void near() {
        Doc.quote(Doc.TERMS, "NEAR (0 to 10; 0 at first), WAY (0 to 99; 5 at first):");
        ThreeSizes x = new ThreeSizes();
        due("NEAR at first", x.status(10), 0);
        due("WAY at first", x.status(11), 5);
        due("NEAR at first, as it was", x.ask(0, 10), 0);
        due("WAY at first, as it was", x.ask(1, 99), 5);
        Check.bounds(Scenes::busy, "NEAR", 0, 10, (y, v) -> y.ask(0, v));
        Check.bounds(Scenes::busy, "WAY", 0, 99, (y, v) -> y.ask(1, v));
        Doc.quote(Doc.TERMS, "what gets no box finds one at the wall near by so many tenths, and is worth WORTH less WAY then.");
        for (int way : new int[] {0, 99}) {
            nearByTenths(way);
        }
    }

    private static void nearByTenths(int way) {
        for (int near = 0; near <= 10; near++) {
            ThreeSizes x = Scenes.oneBox();
            x.rule(0, 3, 99);
            x.ask(0, near);
            x.ask(1, way);
            due("by " + near + " tenths, " + way + " away", x.value(0, 1), 100000L * (near * (10 - way) - (10 - near) * 5));
            int brought = x.go(0, 200);
            if (near == 0) {
                due("all go back", x.day(3) * 1000 + x.day(2), 200000);
            }
            if (near == 10) {
                due("all find one", x.day(2) * 1000 + x.day(3), 200000);
            }
            due("all came", x.day(2) + x.day(3), 200);
            due("what they brought", brought, x.day(2) * (10 - way) - x.day(3) * 5);
        }
    }

    private static void shelves() {
        Doc.quote(Doc.TERMS, "SHELVES 0 to 7 hold NOTHING (at first), a ROW, or a RULE.");
        ThreeSizes x = new ThreeSizes();
        for (int s = 0; s < 8; s++) {
            due("at first", x.holds(s), NONE);
            due("a ROW", x.row(s, 1, 1) * 10 + x.holds(s), 11);
            due("a RULE", x.rule(s, 1, 1) * 100 + x.holds(s), 111);
        }
        due("no SHELF 8", x.row(8, 1, 1), Check.BAD);
        due("no SHELF -1", x.row(-1, 1, 1), Check.BAD);
        due("all SHELVES", x.status(9), 8);
    }

    private static void rows() {
        Doc.quote(Doc.TERMS, "A ROW has a SORT of its own (0 bytes, 1 shorts, 2 ints, 3 longs, 4 booleans) and 0 to 40 elements (0, or not so, at first);");
        for (int sort = 0; sort < 5; sort++) {
            int which = sort;
            ThreeSizes x = new ThreeSizes();
            x.row(0, sort, 40);
            due("its SORT", x.holds(0), sort);
            for (int i = 0; i < 40; i++) {
                due("at first", x.element(0, i), 0);
            }
            due("the last of 40", x.set(0, 39, 1) + x.element(0, 39), 2);
            due("no 41st", x.set(0, 40, 1), Check.BAD);
            x.row(1, sort, 0);
            due("a ROW of none", x.set(1, 0, 1), Check.BAD);
            Check.bounds(Scenes::busy, "elements of SORT " + sort, 0, 40, (y, v) -> y.row(3, which, v));
        }
        Check.bounds(Scenes::busy, "the SORT of a ROW", 0, 4, (y, v) -> y.row(3, v, 1));
    }

    private static void lowestBits() {
        Doc.quote(Doc.TERMS, "what is put in keeps its lowest bits (of booleans: whether it is not 0); told they are numbers (1, 0).");
        wraps(0, 127, -128, 256);
        wraps(1, 32767, -32768, 65536);
        wraps(2, 2147483647, -2147483648, 4294967296L);
        wraps(3, Long.MAX_VALUE, Long.MIN_VALUE, 0);
        ThreeSizes x = new ThreeSizes();
        x.row(0, 4, 1);
        for (long v : new long[] {1, -1, 2, 256, 4294967296L, Long.MIN_VALUE, Long.MAX_VALUE}) {
            x.set(0, 0, 0);
            due("a boolean by 0", x.element(0, 0), 0);
            x.set(0, 0, v);
            due("a boolean by " + v, x.element(0, 0), 1);
        }
    }

    /** Behind the greatest number comes the least one, and all numbers are back. */
    private static void wraps(int sort, long greatest, long least, long all) {
        ThreeSizes x = new ThreeSizes();
        x.row(0, sort, 1);
        long[][] putAndDue = {{greatest, greatest}, {least, least}, {greatest + 1, least}, {least - 1, greatest},
            {all, 0}, {all - 1, -1}, {-all - 1, -1}, {-1, -1}};
        for (long[] c : putAndDue) {
            x.set(0, 0, c[0]);
            due("SORT " + sort + " by " + c[0], x.element(0, 0), c[1]);
        }
    }

    private static void numbersOfRefusals() {
        Doc.quote(Doc.TERMS, "-2 BAD a number that may not be, nothing of that number.");
        Check.refuses(Scenes::busy, "a number that may not be", x -> x.ask(0, 11), -2);
        Check.refuses(Scenes::busy, "nothing of that number", x -> x.sortOf(4, 0), -2);
        Doc.quote(Doc.TERMS, "-3 OTHER: a SHELF that holds another thing than is wanted.");
        Check.refuses(Scenes::busy, "a RULE where a ROW is wanted", x -> x.set(2, 0, 0), -3);
        Check.refuses(Scenes::busy, "a ROW where a RULE is wanted", x -> x.gets(0, 0, 0), -3);
        Doc.quote(Doc.TERMS, "-4 NOTHING: a SHELF that holds NOTHING.");
        Check.refuses(Scenes::busy, "no ROW", x -> x.set(3, 0, 0), -4);
        Check.refuses(Scenes::busy, "no RULE", x -> x.gets(3, 0, 0), -4);
        Doc.quote(Doc.TERMS, "-5 STUCK: it can't be as things stand.");
        Check.refuses(Scenes::busy, "four FULL ones of three", x -> x.size(0, 1, 4), -5);
        Doc.quote(Doc.TERMS, "-6 FULL.");
        Check.refuses(Scenes::crowded, "a byte more", x -> x.feed(0, 1), -6);
        Check.refuses(Scenes::crowded, "a SORT more", x -> x.sort(0, 0, 1, 1), -6);
    }

    static void run() {
        sizes();
        boxes();
        full();
        goes();
        oneAnHour();
        sorts();
        numbersOfSorts();
        together();
        worthAndBack();
        fits();
        near();
        shelves();
        rows();
        lowestBits();
        numbersOfRefusals();
    }
}
