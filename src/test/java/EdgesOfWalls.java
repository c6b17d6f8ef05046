/** Promises 9 to 15 and 17: the wall, its SORTS and THE TAPE, sentence by sentence. */
final class EdgesOfWalls {
    private EdgesOfWalls() {
    }

    private static void due(String call, long got, long want) {
        Check.due(call, got, want);
    }

    private static void size() {
        Doc.quote(9, "BOXES (what 0), FULL ones (1), GOES (2) of a SIZE becomes v: what it was.");
        for (int size = 0; size < 3; size++) {
            ThreeSizes x = new ThreeSizes();
            due("BOXES", x.size(size, 0, 4), 2);
            due("FULL ones", x.size(size, 1, 4), 0);
            due("GOES", x.size(size, 2, 10), 3);
            due("GOES again", x.size(size, 2, 0), 10);
            due("FULL ones again", x.size(size, 1, 0), 4);
            due("BOXES again", x.size(size, 0, 0), 4);
            due("as told", x.status(1 + size) + x.status(4 + size), 0);
            for (int other = 0; other < 3; other++) {
                due("of one SIZE only", x.status(1 + other), other == size ? 0 : 2);
                due("GOES of one SIZE only", x.size(other, 2, 3), other == size ? 0 : 3);
            }
        }
        Doc.quote(9, "BAD (BOXES, FULL ones 0 to 4);");
        Check.bounds(Scenes::busy, "size(0, v, 1)", 0, 2, (x, v) -> x.size(0, v, 1));
        for (int size = 0; size < 3; size++) {
            int z = size;
            Check.bounds(ThreeSizes::new, "BOXES of " + size, 0, 4, (x, v) -> x.size(z, 0, v));
            Check.bounds(EdgesOfWalls::fours, "FULL ones of " + size, 0, 4, (x, v) -> x.size(z, 1, v));
            Check.bounds(EdgesOfWalls::fours, "GOES of " + size, 0, 10, (x, v) -> x.size(z, 2, v));
        }
    }

    private static ThreeSizes fours() {
        ThreeSizes x = new ThreeSizes();
        Scenes.boxes(x, 4, 4, 4);
        return x;
    }

    /** Three BOXES of each SIZE, two of them FULL. */
    private static ThreeSizes twoOfThree() {
        ThreeSizes x = new ThreeSizes();
        Scenes.boxes(x, 3, 3, 3);
        Scenes.full(x, 2, 2, 2);
        return x;
    }

    private static void sizeStuck() {
        Doc.quote(9, "STUCK: fewer BOXES than FULL ones, more FULL ones than BOXES.");
        for (int size = 0; size < 3; size++) {
            int z = size;
            Check.taken(EdgesOfWalls::twoOfThree, "as many BOXES as FULL ones", x -> x.size(z, 0, 2));
            Check.refuses(EdgesOfWalls::twoOfThree, "fewer BOXES than FULL ones", x -> x.size(z, 0, 1), Check.STUCK);
            Check.refuses(EdgesOfWalls::twoOfThree, "no BOXES", x -> x.size(z, 0, 0), Check.STUCK);
            Check.taken(EdgesOfWalls::twoOfThree, "as many FULL ones as BOXES", x -> x.size(z, 1, 3));
            Check.refuses(EdgesOfWalls::twoOfThree, "more FULL ones than BOXES", x -> x.size(z, 1, 4), Check.STUCK);
            Check.refuses(EdgesOfWalls::twoOfThree, "-1 BOXES: BAD ahead", x -> x.size(z, 0, -1), Check.BAD);
            Check.refuses(EdgesOfWalls::twoOfThree, "5 FULL ones: BAD ahead", x -> x.size(z, 1, 5), Check.BAD);
        }
        Check.refuses(EdgesOfWalls::twoOfThree, "no SIZE: BAD ahead", x -> x.size(3, 0, 1), Check.BAD);
    }

    private static void sort() {
        Doc.quote(10, "A SORT: its number.");
        ThreeSizes x = new ThreeSizes();
        due("the least of all", x.sort(0, 0, 1, 0), 0);
        due("the greatest of all", x.sort(2, 100, 99, 99), 1);
        due("the last", x.sort(1, 0, 50, 50) + x.sort(1, 0, 50, 50) + x.sort(1, 0, 50, 50) + x.sort(1, 0, 50, 50), 14);
        Doc.quote(10, "BAD; STUCK: COMES would pass 100 together; FULL.");
        Check.bounds(ThreeSizes::new, "sort(v, 1, 1, 1)", 0, 2, (y, v) -> y.sort(v, 1, 1, 1));
        Check.bounds(ThreeSizes::new, "sort(0, v, 1, 1)", 0, 100, (y, v) -> y.sort(0, v, 1, 1));
        Check.bounds(Scenes::busy, "sort(0, 1, v, 1)", 1, 99, (y, v) -> y.sort(0, 1, v, 1));
        Check.bounds(Scenes::busy, "sort(0, 1, 1, v)", 0, 99, (y, v) -> y.sort(0, 1, 1, v));
        Check.taken(Scenes::busy, "100 together", y -> y.sort(0, 48, 1, 1));
        Check.refuses(Scenes::busy, "101 together", y -> y.sort(0, 49, 1, 1), Check.STUCK);
        Check.refuses(Scenes::crowded, "STUCK ahead of FULL", y -> y.sort(0, 1, 1, 1), Check.STUCK);
        Check.refuses(Scenes::crowded, "FULL", y -> y.sort(0, 0, 1, 1), Check.FULL);
        Check.refuses(Scenes::crowded, "BAD SIZE ahead", y -> y.sort(3, 1, 1, 1), Check.BAD);
        Check.refuses(Scenes::crowded, "BAD COMES ahead", y -> y.sort(0, 101, 1, 1), Check.BAD);
        Check.refuses(Scenes::crowded, "BAD WORTH ahead", y -> y.sort(0, 1, 0, 1), Check.BAD);
        Check.refuses(Scenes::crowded, "BAD BACK ahead", y -> y.sort(0, 0, 1, 100), Check.BAD);
    }

    private static void sorts() {
        Doc.quote(11, "SORTS by the first n elements of the ROW in SHELF s, four each, as sort() has them, until one that can't be one, or that there is no room for: how many came.");
        long[][] notOne = {{3, 1, 1, 1}, {-1, 1, 1, 1}, {0, -1, 1, 1}, {0, 101, 1, 1}, {0, 1, 0, 1}, {0, 1, 100, 1}, {0, 1, 1, -1},
            {0, 1, 1, 100}, {0, 81, 1, 1}, {4294967296L, 1, 1, 1}, {0, 4294967297L, 1, 1}, {0, 1, 4294967297L, 1},
            {0, 1, 1, 4294967297L}, {0, Long.MAX_VALUE, 1, 1}, {0, Long.MIN_VALUE, 1, 1}};
        for (long[] c : notOne) {
            ThreeSizes x = new ThreeSizes();
            Scenes.fill(x, 0, 2, 20, 99, 99, c[0], c[1], c[2], c[3], 0, 0, 1, 0);
            due("until one that can't be one", x.sorts(0, 12), 1);
            due("that one is there", x.status(0), 1);
            due("nothing is refused", x.status(12) + x.status(15) + x.status(16), 0);
        }
        ThreeSizes y = new ThreeSizes();
        Scenes.fill(y, 0, 2, 20, 99, 99, 0, 80, 1, 0, 0, 0, 1, 0);
        due("just 100 together", y.sorts(0, 12), 3);
        due("four numbers each", y.sortOf(1, 0) * 1000 + y.sortOf(1, 1) * 100 + y.sortOf(1, 2) * 10 + y.sortOf(1, 3), 8010);
        y.row(1, 2, 40);
        for (int i = 2; i < 40; i += 4) {
            y.set(1, i, 1);
        }
        due("by the first n only", y.sorts(1, 8), 2);
        due("the last one there is room for", y.sorts(1, 40), 1);
        due("no room", y.sorts(1, 40), 0);
        due("none", y.sorts(1, 0), 0);
        due("FULL is not refused", y.status(16), 0);
    }

    private static ThreeSizes eightRows() {
        ThreeSizes x = new ThreeSizes();
        for (int s = 0; s < 8; s++) {
            x.row(s, 2, 40);
        }
        return x;
    }

    private static void sortsRefused() {
        Doc.quote(11, "BAD SHELF; OTHER; NOTHING; BAD n (0 on, a multiple of four, no more than elements).");
        Check.bounds(EdgesOfWalls::eightRows, "sorts(v, 4)", 0, 7, (x, v) -> x.sorts(v, 4));
        for (int n : new int[] {0, 4, 36, 40}) {
            Check.taken(EdgesOfWalls::eightRows, "sorts(0, " + n + ")", x -> x.sorts(0, n));
        }
        for (int n : new int[] {-4, -1, 1, 2, 3, 5, 39, 41, 44, Integer.MAX_VALUE, Integer.MIN_VALUE, Integer.MAX_VALUE - 3}) {
            Check.refuses(EdgesOfWalls::eightRows, "sorts(0, " + n + ")", x -> x.sorts(0, n), Check.BAD);
            Check.refuses(Scenes::busy, "OTHER ahead of n " + n, x -> x.sorts(2, n), Check.OTHER);
            Check.refuses(Scenes::busy, "NOTHING ahead of n " + n, x -> x.sorts(3, n), Check.NOTHING);
        }
        // three booleans, eight longs, none
        Check.refuses(Scenes::busy, "four of three", x -> x.sorts(4, 4), Check.BAD);
        Check.taken(Scenes::busy, "eight of eight", x -> x.sorts(0, 8));
        Check.refuses(Scenes::busy, "twelve of eight", x -> x.sorts(0, 12), Check.BAD);
        Check.refuses(Scenes::busy, "four of none", x -> x.sorts(6, 4), Check.BAD);
        Check.taken(Scenes::busy, "none of none", x -> x.sorts(6, 0));
        Check.refuses(Scenes::busy, "OTHER", x -> x.sorts(2, 4), Check.OTHER);
        Check.refuses(Scenes::busy, "NOTHING", x -> x.sorts(3, 4), Check.NOTHING);
    }

    private static void sortOf() {
        Doc.quote(12, "Of a SORT: SIZE (0), COMES (1), WORTH (2), BACK (3). BAD.");
        ThreeSizes x = new ThreeSizes();
        int[][] told = {{0, 0, 1, 0}, {2, 100, 99, 99}, {1, 0, 7, 8}};
        for (int[] t : told) {
            x.sort(t[0], t[1], t[2], t[3]);
        }
        for (int sort = 0; sort < 3; sort++) {
            for (int what = 0; what < 4; what++) {
                due("sortOf(" + sort + ", " + what + ")", x.sortOf(sort, what), told[sort][what]);
            }
        }
        Check.bounds(Scenes::busy, "sortOf(v, 0)", 0, 3, (y, v) -> y.sortOf(v, 0));
        Check.bounds(Scenes::busy, "sortOf(0, v)", 0, 3, (y, v) -> y.sortOf(0, v));
        Check.bounds(Scenes::crowded, "sortOf(v, 3)", 0, 5, (y, v) -> y.sortOf(v, 3));
        Check.refuses(ThreeSizes::new, "no SORTS", y -> y.sortOf(0, 0), Check.BAD);
    }

    private static void ask() {
        Doc.quote(13, "NEAR (what 0), WAY (1) becomes v: what it was. BAD.");
        ThreeSizes x = new ThreeSizes();
        due("NEAR", x.ask(0, 10) * 100 + x.status(10), 10);
        due("NEAR again", x.ask(0, 0) * 100 + x.status(10), 1000);
        due("WAY", x.ask(1, 99) * 100 + x.status(11), 599);
        due("WAY again", x.ask(1, 0) * 100 + x.status(11), 9900);
        Check.bounds(Scenes::busy, "ask(v, 1)", 0, 1, (y, v) -> y.ask(v, 1));
        Check.bounds(Scenes::busy, "ask(0, v)", 0, 10, (y, v) -> y.ask(0, v));
        Check.bounds(Scenes::busy, "ask(1, v)", 0, 99, (y, v) -> y.ask(1, v));
    }

    /** What a fed number has put on THE TAPE behind 'way ' comes out as WAY. */
    private static void feed() {
        Doc.quote(14, "THE TAPE gets the n lowest bytes (1 .. 4) of v behind it, the highest of these first: its size.");
        int digits = '7' << 24 | '8' << 16 | '9' << 8 | '6';
        int[] way = {0, 6, 96};
        for (int n = 1; n <= 2; n++) {
            ThreeSizes x = new ThreeSizes();
            Check.feed(x, "way ");
            due("its size", x.feed(digits, n), 4 + n);
            due("read", x.wall(), 1);
            due("the " + n + " lowest", x.status(11), way[n]);
        }
        ThreeSizes three = new ThreeSizes();
        due("three", three.feed('z' << 24 | 'w' << 16 | 'a' << 8 | 'y', 3), 3);
        due("four", three.feed('0' << 24 | ' ' << 16 | ' ' << 8 | ' ', 4), 7);
        due("read", three.wall() * 100 + three.status(11), 100);
        ThreeSizes high = new ThreeSizes();
        high.feed('w' << 24 | 'a' << 16 | 'y' << 8 | '4', 4);
        due("bytes from 128 on", high.feed(-1, 1), 5);
        due("are no TOKENS", high.wall(), -24);
        ThreeSizes sign = new ThreeSizes();
        sign.feed(-128 << 24 | 'w' << 16 | 'a' << 8 | 'y', 4);
        due("the highest one first", sign.wall(), -20);
        Doc.quote(14, "BAD; FULL.");
        Check.bounds(Scenes::busy, "feed(0, v)", 1, 4, (x, v) -> x.feed(0, v));
        for (int n = 1; n <= 4; n++) {
            int many = n;
            due("just 200", hasFed(200 - n).feed(0x20202020, n), 200);
            Check.refuses(() -> hasFed(201 - many), "201 by " + n, x -> x.feed(0x20202020, many), Check.FULL);
            Check.refuses(Scenes::crowded, "200 and " + n, x -> x.feed(0, many), Check.FULL);
        }
        for (int n : new int[] {0, 5, -1, Integer.MAX_VALUE, Integer.MIN_VALUE}) {
            Check.refuses(Scenes::crowded, "BAD ahead of FULL: " + n, x -> x.feed(0, n), Check.BAD);
        }
    }

    private static ThreeSizes hasFed(int bytes) {
        ThreeSizes x = new ThreeSizes();
        Check.feed(x, "way 1" + " ".repeat(bytes - 5));
        return x;
    }

    private static void wipe() {
        Doc.quote(15, "THE TAPE is empty: its size ahead.");
        ThreeSizes x = new ThreeSizes();
        due("empty ahead", x.wipe(), 0);
        x.feed(0, 1);
        due("one", x.wipe() * 10 + x.status(7), 10);
        ThreeSizes y = Scenes.crowded();
        due("full", y.wipe(), 200);
        due("and again", y.wipe() + y.status(7), 0);
        Check.feed(y, "way 9");
        due("it begins anew", y.wall() * 100 + y.status(11), 109);
    }

    private static void state() {
        Doc.quote(17, "FREE (what 0), FULL (1) boxes of all SIZES; THE STATE (2). BAD.");
        ThreeSizes x = fours();
        due("all FREE", x.state(0) * 10000 + x.state(1) * 1000 + x.state(2), 120124);
        Scenes.full(x, 4, 4, 4);
        due("all FULL", x.state(0) * 10000 + x.state(1) * 1000 + x.state(2), 12000);
        Scenes.full(x, 1, 2, 4);
        due("some", x.state(0) * 10000 + x.state(1) * 1000 + x.state(2), 50000 + 7000 + 13);
        Scenes.full(x, 0, 0, 0);
        Scenes.boxes(x, 0, 0, 0);
        due("no BOXES", x.state(0) + x.state(1) + x.state(2), 0);
        Check.bounds(Scenes::busy, "state(v)", 0, 2, (y, v) -> y.state(v));
        for (int what = 0; what <= 2; what++) {
            int w = what;
            Check.onlyAsks(Scenes::busy, "state", y -> y.state(w));
        }
    }

    static void run() {
        size();
        sizeStuck();
        sort();
        sorts();
        sortsRefused();
        sortOf();
        ask();
        feed();
        wipe();
        state();
    }
}
