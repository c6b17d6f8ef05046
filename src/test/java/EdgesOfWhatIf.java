/** Terms, third part, and promises 29 to 38: what if the wall were another, sentence by sentence. */
final class EdgesOfWhatIf {
    private static final int NONE = ThreeSizes.NONE;

    private EdgesOfWhatIf() {
    }

    private static void due(String call, long got, long want) {
        Check.due(call, got, want);
    }

    /** A SORT of a SIZE that comes for sure, worth 10, back 5; nothing is ever fetched. */
    private static ThreeSizes filling(int size) {
        ThreeSizes x = new ThreeSizes();
        x.sort(size, 100, 10, 5);
        Scenes.goes(x, 0, 0, 0);
        return x;
    }

    private static void build() {
        Doc.quote(Doc.TERMS, "BUILD: for so much WALL (0 to 30; a box takes 1, 2, 4 by SIZE) of all numbers of BOXES (0 to 4 each) that take no more the one of the greatest BEST of n HOURS, all FREE;");
        Check.bounds(Scenes::busy, "build(v, 1, 0)", 0, 30, (x, v) -> x.build(v, 1, 0));
        // in 24 HOURS as many boxes as can be are the best
        int[] small = {0, 1, 2, 3, 4, 4, 9, 9, 14, 14, 19, 19, 24, 24, 24, 24, 49, 49, 49, 49, 74, 74, 74, 74, 99, 99, 99, 99,
            124, 124, 124};
        int[] takes = {0, 1, 2, 3, 4, 4, 6, 6, 8, 8, 10, 10, 12, 12, 12, 12, 16, 16, 16, 16, 20, 20, 20, 20, 24, 24, 24, 24,
            28, 28, 28};
        ThreeSizes x = filling(0);
        for (int wall = 0; wall <= 30; wall++) {
            due("small ones on " + wall, x.build(wall, 24, 0), small[wall]);
            due("small ones on " + wall + " take", x.build(wall, 24, 1), takes[wall]);
        }
        ThreeSizes y = filling(1);
        int[][] middle = {{0, 0}, {1, 0}, {2, 5}, {3, 5}, {8, 20}, {11, 20}, {12, 45}, {23, 95}, {24, 120}, {30, 120}};
        for (int[] c : middle) {
            due("middle ones on " + c[0], y.build(c[0], 24, 0), c[1]);
        }
        ThreeSizes z = filling(2);
        int[][] large = {{3, 0}, {4, 25}, {7, 25}, {8, 50}, {15, 75}, {16, 100}, {30, 100}};
        for (int[] c : large) {
            due("large ones on " + c[0], z.build(c[0], 24, 0), c[1]);
        }
        Scenes.full(z, 2, 2, 2);
        due("all FREE, whatever is FULL", z.build(30, 24, 0), 100);
        due("no more BOXES than FULL ones", z.build(4, 24, 0), 25);
    }

    private static void ofSeveralWalls() {
        Doc.quote(Doc.TERMS, "of several the least number of SIZE 2, then of 1, then of 0.");
        ThreeSizes x = filling(0);
        due("one HOUR: one small one", x.build(30, 1, 0), 1);
        due("no HOURS: none", x.build(30, 0, 0), 0);
        due("five boxes on 7: one middle one, not two", x.build(7, 5, 0), 9);
        due("six boxes on 8: two middle ones, no large one", x.build(8, 6, 0), 14);
        due("five boxes on all: one middle one, no large one", x.build(30, 5, 0), 9);
        due("nine boxes on all: one large one", x.build(30, 9, 0), 49);
        due("a middle one for an HOUR", filling(1).build(30, 1, 0), 5);
        due("a large one for an HOUR", filling(2).build(30, 1, 0), 25);
        due("nothing comes", new ThreeSizes().build(30, 24, 0), 0);
    }

    private static void promise29() {
        Doc.quote(29, "BUILD: the numbers of BOXES as a STATE (what 0), how much WALL they take (1). BAD.");
        Check.bounds(Scenes::busy, "build(9, v, 0)", 0, 24, (x, v) -> x.build(9, v, 0));
        Check.bounds(Scenes::busy, "build(9, 2, v)", 0, 1, (x, v) -> x.build(9, 2, v));
        Check.bounds(Scenes::busy, "build(v, 2, 1)", 0, 30, (x, v) -> x.build(v, 2, 1));
        due("no WALL takes nothing", filling(0).build(0, 24, 1), 0);
        due("the most that it takes", filling(0).build(30, 24, 1), 28);
        Check.onlyAsks(Scenes::busy, "build", x -> x.build(30, 3, 0));
    }

    private static void worth() {
        Doc.quote(Doc.TERMS, "A box is WORTH: BEST now (all as it is) with n HOURS less that with one FREE box of its SIZE fewer.");
        ThreeSizes x = Scenes.oneBox();
        due("of no HOURS", x.worth(0, 0), 0);
        due("the only box: 10 for -5", x.worth(0, 1), 15000000);
        // with it 10 and then -0.5, without it -5 and -5
        due("the only box in two HOURS", x.worth(0, 2), 19500000);
        x.size(0, 0, 2);
        x.size(0, 1, 1);
        due("the last FREE one of two: what is FULL may be fetched", x.worth(0, 1), 10000000 + 500000);
        Doc.quote(30, "What a box of a SIZE is WORTH.");
        Check.bounds(ThreeSizes::new, "worth(0, v)", 0, 24, (y, v) -> y.worth(0, v), Check.FAR);
        due("a box too small", threeOneHour().worth(1, 1), 0);
        due("the one box", threeOneHour().worth(2, 1), 15000000);
        Check.onlyAsks(Scenes::busy, "worth", y -> y.worth(0, 5));
        Doc.quote(30, "-1000000000002; -1000000000005: none of it is FREE.");
        noneIsFree("worth", (y, size, n) -> y.worth(size, n));
    }

    /** One box of each SIZE, a large parcel for sure. */
    private static ThreeSizes threeOneHour() {
        ThreeSizes x = filling(2);
        Scenes.boxes(x, 1, 1, 1);
        return x;
    }

    private interface OfBox {
        long on(ThreeSizes x, int size, int n);
    }

    private static void noneIsFree(String name, OfBox call) {
        for (int size = 0; size < 3; size++) {
            int z = size;
            Check.taken(() -> oneFree(z), name + ": one is FREE", x -> call.on(x, z, 1));
            Check.refuses(Scenes::crowded, name + ": all are FULL", x -> call.on(x, z, 1), Check.FAR, Check.STUCK);
            Check.refuses(EdgesOfWhatIf::noBoxes, name + ": no BOXES", x -> call.on(x, z, 1), Check.FAR, Check.STUCK);
            Check.refuses(Scenes::crowded, name + ": BAD ahead", x -> call.on(x, z, 25), Check.FAR, Check.BAD);
            Check.refuses(Scenes::crowded, name + ": BAD ahead", x -> call.on(x, z, -1), Check.FAR, Check.BAD);
        }
        Check.bounds(ThreeSizes::new, name + "(v, 1)", 0, 2, (x, v) -> call.on(x, v, 1), Check.FAR);
    }

    private static ThreeSizes oneFree(int size) {
        ThreeSizes x = Scenes.crowded();
        x.size(size, 1, 1);
        return x;
    }

    private static ThreeSizes noBoxes() {
        ThreeSizes x = filling(0);
        Scenes.boxes(x, 0, 0, 0);
        return x;
    }

    private static void price() {
        Doc.quote(31, "What a FREE box of a SIZE is worth now: BEST of n HOURS in THE STATE less that with one more FULL of it.");
        ThreeSizes x = Scenes.oneBox();
        due("of no HOURS", x.price(0, 0), 0);
        due("FULL it would be fetched by 3 tenths", x.price(0, 1), 10000000 + 500000);
        due("two HOURS: 9.5 for -1", x.price(0, 2), 10500000);
        x.size(0, 2, 10);
        due("fetched at once", x.price(0, 24), 0);
        x.size(0, 2, 0);
        due("never fetched", x.price(0, 24), 15000000);
        Check.bounds(ThreeSizes::new, "price(0, v)", 0, 24, (y, v) -> y.price(0, v), Check.FAR);
        Check.onlyAsks(Scenes::busy, "price", y -> y.price(0, 5));
        Doc.quote(31, "-1000000000002; -1000000000005: none of it is FREE.");
        noneIsFree("price", (y, size, n) -> y.price(size, n));
    }

    private static void brings() {
        Doc.quote(32, "What a SORT brings: BEST of n HOURS less that, if its COMES were 0. -1000000000002.");
        ThreeSizes x = Scenes.scarce();
        x.sort(1, 0, 99, 99);
        due("of no HOURS", x.brings(0, 0), 0);
        due("the small one", x.brings(0, 1), 1000000);
        due("the large one", x.brings(1, 1), 25000000);
        due("one that never comes", x.brings(2, 24), 0);
        Check.bounds(Scenes::busy, "brings(v, 1)", 0, 3, (y, v) -> y.brings(v, 1), Check.FAR);
        Check.bounds(Scenes::busy, "brings(0, v)", 0, 24, (y, v) -> y.brings(0, v), Check.FAR);
        Check.refuses(ThreeSizes::new, "no SORTS", y -> y.brings(0, 1), Check.FAR, Check.BAD);
        Check.onlyAsks(Scenes::busy, "brings", y -> y.brings(1, 5));
        ThreeSizes lossy = new ThreeSizes();
        Scenes.boxes(lossy, 0, 0, 0);
        lossy.sort(0, 100, 1, 99);
        due("it may be below 0", lossy.brings(0, 24), -24 * 99000000L);
    }

    private static void fits() {
        Doc.quote(33, "SIZES (bits) with a FREE box into which a SORT FITS. BAD.");
        for (int free = 0; free < 8; free++) {
            ThreeSizes x = Scenes.threeSorts();
            Scenes.full(x, 2 - (free & 1), 2 - (free >> 1 & 1), 2 - (free >> 2));
            due("a small one, FREE " + free, x.fits(0), free);
            due("a middle one, FREE " + free, x.fits(1), free & 6);
            due("a large one, FREE " + free, x.fits(2), free & 4);
        }
        Check.bounds(Scenes::busy, "fits(v)", 0, 3, (x, v) -> x.fits(v));
        Check.refuses(ThreeSizes::new, "no SORTS", x -> x.fits(0), Check.BAD);
        Check.onlyAsks(Scenes::busy, "fits", x -> x.fits(1));
    }

    private static void worst() {
        Doc.quote(34, "The STATE with the least BEST of n HOURS, of several the least. BAD.");
        ThreeSizes x = new ThreeSizes();
        due("nothing comes: all alike", x.worst(24), 0);
        x.sort(0, 100, 10, 5);
        due("no HOURS: all alike", x.worst(0), 0);
        due("nothing FREE", x.worst(24), 0);
        Scenes.boxes(x, 0, 0, 0);
        due("no BOXES", x.worst(24), 0);
        Check.bounds(Scenes::busy, "worst(v)", 0, 24, (y, v) -> y.worst(v));
        Check.onlyAsks(Scenes::busy, "worst", y -> y.worst(24));
    }

    private static void boards() {
        Doc.quote(Doc.TERMS, "BOARDS: BEST with one FREE box of SIZE 2 fewer and 3 of SIZE 0 more (4 BOXES at most count), less BEST now.");
        // BOXES of SIZE 0 ahead, and what 24 HOURS bring more: so many more boxes at 15 each, less the large one
        int[][] cases = {{0, 30}, {1, 30}, {2, 15}, {3, 0}, {4, -15}};
        for (int[] c : cases) {
            ThreeSizes x = filling(0);
            Scenes.boxes(x, c[0], 0, 1);
            due(c[0] + " small ones ahead", x.board(24), 1000000L * c[1]);
            Scenes.full(x, c[0], 0, 0);
            due(c[0] + " FULL small ones ahead", x.board(24), 1000000L * c[1]);
        }
        ThreeSizes y = filling(2);
        Scenes.boxes(y, 0, 0, 1);
        due("a large one is missed", y.board(1), -15000000);
        due("of no HOURS", y.board(0), 0);
        Doc.quote(35, "BOARDS. -1000000000002; -1000000000005: no FREE box of SIZE 2.");
        Check.bounds(ThreeSizes::new, "board(v)", 0, 24, (x, v) -> x.board(v), Check.FAR);
        Check.refuses(Scenes::crowded, "all are FULL", x -> x.board(1), Check.FAR, Check.STUCK);
        Check.refuses(EdgesOfWhatIf::noBoxes, "no BOXES", x -> x.board(1), Check.FAR, Check.STUCK);
        Check.refuses(() -> largeFull(), "FREE ones of other SIZES", x -> x.board(1), Check.FAR, Check.STUCK);
        Check.taken(() -> oneFree(2), "one is FREE", x -> x.board(1));
        Check.refuses(Scenes::crowded, "BAD ahead", x -> x.board(25), Check.FAR, Check.BAD);
        Check.refuses(Scenes::crowded, "BAD ahead", x -> x.board(-1), Check.FAR, Check.BAD);
        Check.onlyAsks(Scenes::busy, "board", x -> x.board(5));
    }

    private static ThreeSizes largeFull() {
        ThreeSizes x = filling(0);
        x.size(2, 1, 2);
        return x;
    }

    private static void letter() {
        Doc.quote(Doc.TERMS, "A LETTER for a SIZE: GOES is 3 more (10 at most) in the first HOUR alone: BEST with it less without it.");
        for (int goes = 0; goes <= 10; goes++) {
            ThreeSizes x = Scenes.oneFullBox();
            x.size(0, 2, goes);
            due("GOES " + goes, x.letter(0, 1), 1500000L * Math.min(3, 10 - goes));
        }
        // FULL after the first HOUR either way: were it more in the second, too, it would be 9
        due("the first HOUR alone", Scenes.oneFullBox().letter(0, 2), 4500000);
        // FREE 5 and FULL 1.5 of one HOUR, 8.25 and 3.525 of two: so much more is had by 3 tenths
        ThreeSizes half = new ThreeSizes();
        Scenes.boxes(half, 1, 0, 0);
        half.size(0, 1, 1);
        half.sort(0, 50, 10, 0);
        due("one HOUR", half.letter(0, 1), 1500000);
        due("another behind it", half.letter(0, 2), 2025000);
        due("two behind it", half.letter(0, 3), 2208750);
        due("none is FULL", Scenes.oneBox().letter(0, 1), 0);
        due("no BOXES of it", Scenes.oneFullBox().letter(2, 24), 0);
        Doc.quote(36, "A LETTER. -1000000000002 (n 1 to 24).");
        Check.bounds(Scenes::busy, "letter(0, v)", 1, 24, (x, v) -> x.letter(0, v), Check.FAR);
        Check.bounds(Scenes::busy, "letter(v, 1)", 0, 2, (x, v) -> x.letter(v, 1), Check.FAR);
        Check.onlyAsks(Scenes::busy, "letter", x -> x.letter(1, 5));
    }

    private static void whom() {
        Doc.quote(37, "The SIZE for which a LETTER brings most with n HOURS (1 to 24), of several the least; NONE: none brings more than 0. BAD.");
        Check.bounds(Scenes::busy, "whom(v)", 1, 24, (x, v) -> x.whom(v));
        ThreeSizes x = new ThreeSizes();
        x.sort(0, 100, 10, 5);
        due("nothing is FULL", x.whom(24), NONE);
        Scenes.full(x, 2, 2, 2);
        due("of three the least", x.whom(1), 0);
        x.size(0, 2, 10);
        due("something is fetched for sure", x.whom(1), NONE);
        // none is fetched by 7 7 7, 5 7 7 and so on: the greater GOES, the more three more are worth
        int[][] goesAndWhom = {{5, 3, 3, 0}, {3, 5, 3, 1}, {3, 3, 5, 2}, {5, 5, 3, 0}, {3, 5, 5, 1}, {5, 3, 5, 0}, {7, 8, 9, 0}};
        for (int[] c : goesAndWhom) {
            Scenes.goes(x, c[0], c[1], c[2]);
            due("GOES " + c[0] + " " + c[1] + " " + c[2], x.whom(1), c[3]);
        }
        due("no SORTS", new ThreeSizes().whom(1), NONE);
        // the small box by 3 tenths more for small ones now, or the large one by 3 tenths that is good for longer
        due("one HOUR: 0.6 by the small one, 0.48 by the large one", smallOrLarge(20).whom(1), 0);
        due("two HOURS: the large one", smallOrLarge(20).whom(2), 2);
        due("two HOURS with more small parcels: still the small one", smallOrLarge(30).whom(2), 0);
        due("three HOURS: the large one", smallOrLarge(30).whom(3), 2);
        due("a millionth is more than 0", aMillionth().letter(0, 1), 1);
        due("a millionth is more than 0: for it", aMillionth().whom(1), 0);
        Check.onlyAsks(Scenes::busy, "whom", y -> y.whom(5));
    }

    /** A small box, GOES 7, and a large one, GOES 0, both FULL; large parcels by 10, small ones by so many hundredths. */
    private static ThreeSizes smallOrLarge(int comes) {
        ThreeSizes x = new ThreeSizes();
        Scenes.boxes(x, 1, 0, 1);
        Scenes.full(x, 1, 0, 1);
        Scenes.goes(x, 7, 3, 0);
        x.sort(0, comes, 10, 0);
        x.sort(2, 10, 10, 0);
        return x;
    }

    /** None is fetched by a thousandth; what comes by a hundredth is worth a tenth more with a box. */
    private static ThreeSizes aMillionth() {
        ThreeSizes x = new ThreeSizes();
        Scenes.full(x, 2, 2, 2);
        Scenes.goes(x, 9, 9, 9);
        x.sort(0, 1, 1, 0);
        x.ask(0, 9);
        x.ask(1, 0);
        return x;
    }

    private static void feast() {
        Doc.quote(Doc.TERMS, "FEAST of k: COMES of each SORT k hundredths more, if all together stay 100 at most.");
        ThreeSizes x = new ThreeSizes();
        x.sort(0, 30, 10, 5);
        x.sort(0, 30, 20, 5);
        due("20 each: 100 together", x.feast(20, 1), 2000000 + 4000000);
        due("21 each: 102 together", x.feast(21, 1), Check.FAR + Check.STUCK);
        ThreeSizes y = new ThreeSizes();
        y.sort(0, 50, 10, 5);
        due("50 for one: 100", y.feast(50, 1), 5000000);
        ThreeSizes odd = new ThreeSizes();
        odd.sort(0, 51, 10, 5);
        due("49 for one: 100", odd.feast(49, 1), 4900000);
        due("50 for one: 101", odd.feast(50, 1), Check.FAR + Check.STUCK);
        y.sort(0, 0, 10, 5);
        due("50 for two: 150", y.feast(50, 1), Check.FAR + Check.STUCK);
        due("one that never came comes, too", y.feast(25, 1), 5000000);
        Doc.quote(38, "FEAST of k (0 to 50): BEST then less BEST as it is. -1000000000002; -1000000000005: COMES would pass 100.");
        Check.bounds(ThreeSizes::new, "feast(v, 1)", 0, 50, (z, v) -> z.feast(v, 1), Check.FAR);
        Check.bounds(Scenes::busy, "feast(0, v)", 0, 24, (z, v) -> z.feast(0, v), Check.FAR);
        due("k 0", Scenes.busy().feast(0, 24), 0);
        due("no HOURS", Scenes.busy().feast(12, 0), 0);
        due("no SORTS", new ThreeSizes().feast(50, 24), 0);
        due("100 already, none more", Scenes.crowded().feast(0, 24), 0);
        // four SORTS, 52 hundredths: 12 each are just 100
        Check.onlyAsks(Scenes::busy, "feast(12, 5)", z -> z.feast(12, 5));
        Check.refuses(Scenes::busy, "feast(13, 5)", z -> z.feast(13, 5), Check.FAR, Check.STUCK);
        Check.refuses(Scenes::crowded, "feast(1, 1)", z -> z.feast(1, 1), Check.FAR, Check.STUCK);
        Check.refuses(Scenes::crowded, "BAD n ahead", z -> z.feast(1, 25), Check.FAR, Check.BAD);
        Check.refuses(Scenes::crowded, "BAD k ahead", z -> z.feast(51, 1), Check.FAR, Check.BAD);
    }

    static void run() {
        build();
        ofSeveralWalls();
        promise29();
        worth();
        price();
        brings();
        fits();
        worst();
        boards();
        letter();
        whom();
        feast();
    }
}
