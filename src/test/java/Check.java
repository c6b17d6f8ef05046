import java.util.Arrays;
import java.util.function.Supplier;
import java.util.function.ToLongFunction;

/** Counts calls that answer something else than is due, and looks at all that an object tells. */
final class Check {
    static final int BAD = -2;
    static final int OTHER = -3;
    static final int NOTHING = -4;
    static final int STUCK = -5;
    static final int FULL = -6;
    /** From here on down calls whose answers may be below 0 tell a refusal. */
    static final long FAR = -1000000000000L;
    static final long BELOW = -1000000;

    private static int done = 0;
    private static int wrong = 0;
    private static String about = "";

    /** A call with one number left open. */
    interface Call {
        long on(ThreeSizes x, int v);
    }

    private Check() {
    }

    /** What is looked at from now on; told with what is wrong. */
    static void about(String words) {
        about = words + ": ";
    }

    static void due(String call, long got, long want) {
        done++;
        if (got != want) {
            tell(call + " answered " + got + ", due is " + want);
        }
    }

    static void isTrue(String what, boolean holds) {
        done++;
        if (!holds) {
            tell("not so: " + what);
        }
    }

    static void same(String what, String got, String want) {
        done++;
        if (!got.equals(want)) {
            tell(what + "\n  is     " + got + "\n  due is " + want);
        }
    }

    /**
     * The call is refused, and nothing changes but how many refusals of that number (-2 to -6) there were: the object is
     * held against a twin to which the call was not made, THE TAPE and what is kept, too.
     */
    static void refuses(Supplier<ThreeSizes> scene, String call, ToLongFunction<ThreeSizes> what, long below, int number) {
        ThreeSizes x = scene.get();
        ThreeSizes twin = scene.get();
        due(call, what.applyAsLong(x), below + number);
        int[] counts = refusals(twin);
        counts[-2 - number]++;
        same(call + ": refusals", Arrays.toString(refusals(x)), Arrays.toString(counts));
        same(call + ": all else", told(x), told(twin));
        same(call + ": the tape and what is kept", hidden(x), hidden(twin));
    }

    static void refuses(Supplier<ThreeSizes> scene, String call, ToLongFunction<ThreeSizes> what, int number) {
        refuses(scene, call, what, 0, number);
    }

    /** The call is not refused, and changes nothing. */
    static void onlyAsks(Supplier<ThreeSizes> scene, String call, ToLongFunction<ThreeSizes> what) {
        ThreeSizes x = scene.get();
        ThreeSizes twin = scene.get();
        what.applyAsLong(x);
        same(call + ": refusals", Arrays.toString(refusals(x)), Arrays.toString(refusals(twin)));
        same(call + ": all else", told(x), told(twin));
        same(call + ": the tape and what is kept", hidden(x), hidden(twin));
    }

    static void taken(Supplier<ThreeSizes> scene, String call, ToLongFunction<ThreeSizes> what) {
        ThreeSizes x = scene.get();
        int[] counts = refusals(x);
        what.applyAsLong(x);
        same(call + " is not refused", Arrays.toString(refusals(x)), Arrays.toString(counts));
    }

    /** The call takes the numbers from low to high; those on both sides of them and the farthest are BAD. */
    static void bounds(Supplier<ThreeSizes> scene, String call, int low, int high, Call what, long below) {
        for (int v : new int[] {low, high}) {
            taken(scene, call + " by " + v, x -> what.on(x, v));
        }
        for (int v : new int[] {low - 1, high + 1, Integer.MIN_VALUE, Integer.MAX_VALUE}) {
            refuses(scene, call + " by " + v, x -> what.on(x, v), below, BAD);
        }
    }

    static void bounds(Supplier<ThreeSizes> scene, String call, int low, int high, Call what) {
        bounds(scene, call, low, high, what, 0);
    }

    static int[] refusals(ThreeSizes x) {
        int[] counts = new int[5];
        for (int i = 0; i < 5; i++) {
            counts[i] = x.status(12 + i);
        }
        return counts;
    }

    /** All that an object tells without a refusal, but THE TAPE's bytes and how many refusals there were. */
    static String told(ThreeSizes x) {
        return toldOfWall(x) + toldOfShelves(x);
    }

    static String toldOfWall(ThreeSizes x) {
        StringBuilder all = new StringBuilder("status");
        for (int i = 0; i < 12; i++) {
            all.append(' ').append(x.status(i));
        }
        all.append(" goes");
        for (int size = 0; size < 3; size++) {
            int goes = x.size(size, 2, 0);
            x.size(size, 2, goes);
            all.append(' ').append(goes);
        }
        all.append(" sorts");
        for (int i = 0; i < x.status(0); i++) {
            for (int what = 0; what < 4; what++) {
                all.append(' ').append(x.sortOf(i, what));
            }
        }
        all.append(" days");
        for (int i = 0; i < 6; i++) {
            all.append(' ').append(x.day(i));
        }
        return all.toString();
    }

    static String toldOfShelves(ThreeSizes x) {
        StringBuilder all = new StringBuilder();
        for (int s = 0; s < 8; s++) {
            int held = x.holds(s);
            all.append(" shelf ").append(held);
            if (held >= 10) {
                all.append(' ').append(x.says(s, 0));
            } else if (held >= 0) {
                // no test's ROWS that are looked at so are longer, but for those of 40
                for (int i = 0; i < 16; i++) {
                    all.append(' ').append(x.element(s, i));
                }
                all.append(' ').append(x.element(s, 39));
            }
        }
        return all.toString();
    }

    /** What THE TAPE is read as, and what was kept; the object is of no use behind it. */
    private static String hidden(ThreeSizes x) {
        String read = "wall " + x.wall() + " " + toldOfWall(x);
        return read + " back " + x.back() + " " + toldOfWall(x);
    }

    /** Puts a text of signs below 256 on THE TAPE, four at once: an object is used for 512 calls at most. */
    static void feed(ThreeSizes x, String text) {
        for (int i = 0; i < text.length(); i += 4) {
            int n = Math.min(4, text.length() - i);
            int v = 0;
            for (int j = i; j < i + n; j++) {
                v = v << 8 | text.charAt(j);
            }
            x.feed(v, n);
        }
    }

    static int wall(ThreeSizes x, String text) {
        feed(x, text);
        return x.wall();
    }

    private static void tell(String what) {
        wrong++;
        if (wrong <= 40) {
            System.out.println(about + what);
        }
    }

    static void end(String name) {
        System.out.println(name + ": " + done + " looked at, " + wrong + " wrong");
        if (wrong != 0) {
            System.exit(1);
        }
    }
}
