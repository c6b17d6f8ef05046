import java.lang.management.ManagementFactory;

/** All calls of one run live in one room: what 512 of the dearest calls make stays far below it. */
public final class RoomTest {
    private static final int CALLS = 512;
    private static final long MOST_BYTES = 2_000_000;

    private RoomTest() {
    }

    private static long made() {
        com.sun.management.ThreadMXBean bean = (com.sun.management.ThreadMXBean) ManagementFactory.getThreadMXBean();
        return bean.getThreadAllocatedBytes(Thread.currentThread().getId());
    }

    private static ThreeSizes busy() {
        ThreeSizes x = new ThreeSizes();
        for (int i = 0; i < 6; i++) {
            x.sort(i % 3, 16, 10 + i, 5);
        }
        for (int size = 0; size < 3; size++) {
            x.size(size, 0, 4);
        }
        for (int s = 0; s < 7; s++) {
            x.rule(s, 6, 20);
        }
        x.row(7, 3, 40);
        return x;
    }

    private static void call(ThreeSizes x, int which) {
        switch (which) {
            case 0: x.row(6, 3, 40); break;
            case 1: x.rule(6, 6, 20); break;
            case 2: x.keep(24); break;
            case 3: x.head(24); break;
            case 4: x.build(30, 6, 0); break;
            case 5: x.cart(7, 6, 24, 5); break;
            case 6: x.go(0, 200); break;
            case 7: Check.wall(x, "box 0 4;way 1"); break;
            case 8: x.image(); x.back(); break;
            case 9: x.whom(24); break;
            case 10: x.feast(0, 24); break;
            default: new ThreeSizes(); break;
        }
    }

    public static void main(String[] args) {
        for (int which = 0; which < 11; which++) {
            ThreeSizes x = busy();
            call(x, which);
            long ahead = made();
            for (int i = 0; i < CALLS; i++) {
                call(x, which);
            }
            long bytes = made() - ahead;
            Check.isTrue("call " + which + " makes little: " + bytes + " bytes", bytes < MOST_BYTES);
        }
        long ahead = made();
        call(null, 11);
        long bytes = made() - ahead;
        Check.isTrue("an object is small: " + bytes + " bytes", bytes < 50_000);
        Check.end("RoomTest");
    }
}
