import java.util.function.LongSupplier;

/** Counts calls that answer something else than is due, and looks at all that an object tells. */
final class Check {
    private static int done = 0;
    private static int wrong = 0;

    private Check() {
    }

    static void due(String call, long got, long want) {
        done++;
        if (got != want) {
            tell(call + " answered " + got + ", due is " + want);
        }
    }

    static void isTrue(String what, boolean holds) {
        done++;
        if (!holds) {
            tell("not so: " + what);
        }
    }

    static void same(String what, String got, String want) {
        done++;
        if (!got.equals(want)) {
            tell(what + "\n  is     " + got + "\n  due is " + want);
        }
    }

    /** The call answers want, and nothing changes but how many refusals of that number (-2 to -6) there were. */
    static void refused(ThreeSizes x, String call, LongSupplier what, long want, int number) {
        String ahead = told(x);
        int[] counts = refusals(x);
        due(call, what.getAsLong(), want);
        counts[-2 - number]++;
        same(call + ": refusals", java.util.Arrays.toString(refusals(x)), java.util.Arrays.toString(counts));
        same(call + ": all else", told(x), ahead);
    }

    static void refused(ThreeSizes x, String call, LongSupplier what, int number) {
        refused(x, call, what, number, number);
    }

    static void refusedFar(ThreeSizes x, String call, LongSupplier what, int number) {
        refused(x, call, what, -1000000000000L + number, number);
    }

    static int[] refusals(ThreeSizes x) {
        int[] counts = new int[5];
        for (int i = 0; i < 5; i++) {
            counts[i] = x.status(12 + i);
        }
        return counts;
    }

    /** All that an object tells without a refusal, but THE TAPE's bytes and how many refusals there were. */
    static String told(ThreeSizes x) {
        StringBuilder all = new StringBuilder("status");
        for (int i = 0; i < 12; i++) {
            all.append(' ').append(x.status(i));
        }
        all.append(" goes");
        for (int size = 0; size < 3; size++) {
            int goes = x.size(size, 2, 0);
            x.size(size, 2, goes);
            all.append(' ').append(goes);
        }
        all.append(" sorts");
        for (int i = 0; i < x.status(0); i++) {
            for (int what = 0; what < 4; what++) {
                all.append(' ').append(x.sortOf(i, what));
            }
        }
        all.append(" days");
        for (int i = 0; i < 6; i++) {
            all.append(' ').append(x.day(i));
        }
        for (int s = 0; s < 8; s++) {
            int held = x.holds(s);
            all.append(" shelf ").append(held);
            if (held >= 10) {
                all.append(' ').append(x.says(s, 0));
            } else if (held >= 0) {
                for (int i = 0; i < 40; i++) {
                    all.append(' ').append(x.element(s, i));
                }
            }
        }
        return all.toString();
    }

    /** Puts a text of signs below 256 on THE TAPE. */
    static void feed(ThreeSizes x, String text) {
        for (int i = 0; i < text.length(); i++) {
            x.feed(text.charAt(i), 1);
        }
    }

    static int wall(ThreeSizes x, String text) {
        feed(x, text);
        return x.wall();
    }

    private static void tell(String what) {
        wrong++;
        if (wrong <= 40) {
            System.out.println(what);
        }
    }

    static void end(String name) {
        System.out.println(name + ": " + done + " looked at, " + wrong + " wrong");
        if (wrong != 0) {
            System.exit(1);
        }
    }
}
