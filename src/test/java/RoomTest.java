import java.lang.management.ManagementFactory;

/** All calls of one run live in one room: what an object's 512 calls make stays far below it, if they are the dearest. */
public final class RoomTest {
    // an object is used for 512 calls at most: busy() makes 17 of them, and some here make five at once
    private static final int CALLS = 490;
    private static final long MOST_BYTES = 2_000_000;

    private RoomTest() {
    }

    private static long made() {
        com.sun.management.ThreadMXBean bean = (com.sun.management.ThreadMXBean) ManagementFactory.getThreadMXBean();
        return bean.getThreadAllocatedBytes(Thread.currentThread().getId());
    }

    private static ThreeSizes busy() {
        ThreeSizes x = new ThreeSizes();
        for (int i = 0; i < 6; i++) {
            x.sort(i % 3, 16, 10 + i, 5);
        }
        for (int size = 0; size < 3; size++) {
            x.size(size, 0, 4);
        }
        for (int s = 0; s < 7; s++) {
            x.rule(s, 6, 20);
        }
        x.row(7, 3, 40);
        return x;
    }

    /** One of the dearest calls, or a few that go together; how many calls these were. */
    private static int call(ThreeSizes x, int which) {
        switch (which) {
            case 0: x.row(6, 3, 40); return 1;
            case 1: x.rule(6, 6, 20); return 1;
            case 2: x.keep(24); return 1;
            case 3: x.head(24); return 1;
            case 4: x.build(30, 6, 0); return 1;
            case 5: x.cart(7, 6, 24, 5); return 1;
            case 6: x.go(0, 200); return 1;
            case 7: Check.wall(x, "box 0 4;way 1"); return 5;
            case 8: x.image(); x.back(); return 2;
            case 9: x.whom(24); return 1;
            case 10: x.feast(0, 24); return 1;
            default: new ThreeSizes(); return 0;
        }
    }

    public static void main(String[] args) {
        for (int which = 0; which < 11; which++) {
            ThreeSizes x = busy();
            int calls = call(x, which);
            long ahead = made();
            while (calls < CALLS) {
                calls += call(x, which);
            }
            long bytes = made() - ahead;
            Check.isTrue("call " + which + " makes little: " + bytes + " bytes", bytes < MOST_BYTES);
        }
        long ahead = made();
        call(null, 11);
        long bytes = made() - ahead;
        Check.isTrue("an object is small: " + bytes + " bytes", bytes < 50_000);
        Check.end("RoomTest");
    }
}
