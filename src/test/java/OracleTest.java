import java.lang.reflect.Method;
import java.util.ArrayList;
import java.util.Arrays;
import java.util.Comparator;
import java.util.List;
import java.util.Map;
import java.util.Random;

/** Many runs of calls by chance, each answer held against the Oracle's; the chances are the same every time. */
public final class OracleTest {
    private static final int CALLS = 512;
    private static final int[] EDGES = {
        0, -1, 1, 2, 3, 4, 5, 6, 7, 8, 10, 11, 20, 24, 25, 30, 31, 40, 41, 50, 51, 99, 100, 101, 124, 125,
        200, 201, 255, 256, Integer.MAX_VALUE, Integer.MIN_VALUE, Integer.MAX_VALUE - 1};
    private static final String[] BITS = {
        "box", "goes", "sort", "comes", "worth", "back", "near", "way", ";", " ", "0", "1", "2", "3", "4", "5",
        "10", "11", "20", "50", "99", "100", "101", "0004", "x", "A", "!", "\u00e9", "\u0000", "boxes", "ways"};

    /** How often a call is made against once for the others: what sets the scene comes often, what is dear seldom. */
    private static final Map<String, Integer> OFTEN = Map.ofEntries(
        Map.entry("set", 8), Map.entry("row", 4), Map.entry("rule", 6), Map.entry("sort", 4),
        Map.entry("size", 6), Map.entry("ask", 2), Map.entry("feed", 2), Map.entry("wall", 3),
        Map.entry("copy", 3), Map.entry("sorts", 2), Map.entry("gets", 3), Map.entry("go", 3),
        Map.entry("judge", 4), Map.entry("put", 2), Map.entry("says", 3), Map.entry("status", 2),
        Map.entry("cart", 3));

    private final Random chance;
    private final ThreeSizes x = new ThreeSizes();
    private final Oracle oracle = new Oracle();
    private final List<Method> calls;
    private final int run;
    private int made = 0;

    private OracleTest(int run, List<Method> calls) {
        this.run = run;
        this.calls = calls;
        this.chance = new Random(run);
    }

    private static List<Method> weighted() {
        List<Method> all = new ArrayList<>();
        Method[] face = Oracle.class.getDeclaredMethods();
        Arrays.sort(face, Comparator.comparing(Method::getName));
        for (Method m : face) {
            if (java.lang.reflect.Modifier.isPublic(m.getModifiers())) {
                for (int i = 0; i < OFTEN.getOrDefault(m.getName(), 1); i++) {
                    all.add(m);
                }
            }
        }
        return all;
    }

    private int upTo(int most) {
        return chance.nextInt(most + 1);
    }

    private int hours() {
        return chance.nextInt(4) == 0 ? upTo(24) : upTo(6);
    }

    private int state() {
        return upTo(4) == 0 ? upTo(124) : upTo(oracle.status(1)) + 5 * upTo(oracle.status(2)) + 25 * upTo(oracle.status(3));
    }

    /** Numbers that may mostly be. */
    private long[] likely(String name) {
        int sort = upTo(Math.max(0, oracle.status(0) - 1));
        int shelf = upTo(7);
        // ROWS mostly in the lower SHELVES and RULES in the upper ones, so that both are found
        int row = upTo(3);
        int rule = 4 + upTo(3);
        switch (name) {
            case "row": return new long[] {row, upTo(2) == 0 ? upTo(4) : 2, upTo(2) == 0 ? upTo(40) : 4 * upTo(6)};
            case "set": return new long[] {row, upTo(7), upTo(3) == 0 ? chance.nextLong() : upTo(3) - 1};
            case "copy": return new long[] {row, upTo(3), upTo(4), upTo(4), upTo(5)};
            case "element": return new long[] {row, upTo(10)};
            case "holds": return new long[] {shelf};
            case "rule": return new long[] {rule, 1 + upTo(5), upTo(2) == 0 ? upTo(99) : upTo(5)};
            case "says": return new long[] {rule, upTo(6)};
            case "size": {
                int what = upTo(2);
                return new long[] {upTo(2), what, what == 2 ? upTo(10) : upTo(4)};
            }
            case "sort": return new long[] {upTo(2), upTo(40), 1 + upTo(40), upTo(30)};
            case "sorts": return new long[] {row, 4 * upTo(4)};
            case "sortOf": return new long[] {sort, upTo(3)};
            case "ask": {
                int what = upTo(1);
                return new long[] {what, what == 0 ? upTo(10) : upTo(30)};
            }
            case "feed": return new long[] {chance.nextInt(), 1 + upTo(3)};
            case "state": return new long[] {upTo(2)};
            case "gets": return new long[] {rule, sort, state()};
            case "lost": case "fits": return new long[] {sort};
            case "value": case "gap": return new long[] {rule, hours()};
            case "best": case "head": case "keep": case "worst": case "board": case "whom": return new long[] {hours()};
            case "now": case "brings": return new long[] {sort, hours()};
            case "cart": {
                int k = upTo(6);
                return new long[] {row, k, hours(), upTo(k) - 1};
            }
            case "judge": case "put": return new long[] {row, upTo(3), upTo(5)};
            case "build": return new long[] {upTo(30), upTo(4), upTo(1)};
            case "worth": case "price": case "letter": return new long[] {upTo(2), hours()};
            case "feast": return new long[] {upTo(3) == 0 ? upTo(50) : upTo(5), hours()};
            case "go": return new long[] {rule, 1 + upTo(upTo(9) == 0 ? 199 : 20)};
            case "day": return new long[] {upTo(5)};
            case "seed": return new long[] {chance.nextInt()};
            case "status": return new long[] {upTo(16)};
            default: return new long[0];
        }
    }

    private long[] arguments(String name) {
        long[] all = likely(name);
        for (int i = 0; i < all.length; i++) {
            if (chance.nextInt(14) == 0) {
                all[i] = EDGES[chance.nextInt(EDGES.length)];
            }
        }
        return all;
    }

    private String statement() {
        switch (upTo(6)) {
            case 0: return "box " + upTo(2) + " " + upTo(4);
            case 1: return "goes " + upTo(2) + " " + upTo(10);
            case 2: return "near " + upTo(10);
            case 3: return "way " + upTo(99);
            default:
                return "sort " + upTo(2) + " comes " + upTo(30) + (upTo(1) == 0 ? " worth " + (1 + upTo(60)) : "")
                    + (upTo(1) == 0 ? " back " + upTo(20) : "");
        }
    }

    private String text() {
        StringBuilder text = new StringBuilder();
        for (int i = upTo(3); i >= 0; i--) {
            text.append(statement()).append(i > 0 ? upTo(1) == 0 ? ";" : " ; " : "");
        }
        if (upTo(1) == 0) {
            String bit = BITS[chance.nextInt(BITS.length)];
            int at = upTo(text.length());
            int end = Math.min(text.length(), at + upTo(5));
            text.replace(at, end, upTo(2) == 0 ? bit : upTo(1) == 0 ? " " + bit + " " : "");
        }
        return text.substring(0, Math.min(200, text.length()));
    }

    private long answer(Object on, String name, long[] numbers) throws Exception {
        for (Method m : on.getClass().getDeclaredMethods()) {
            if (m.getName().equals(name) && java.lang.reflect.Modifier.isPublic(m.getModifiers())) {
                Object[] given = new Object[numbers.length];
                for (int i = 0; i < given.length; i++) {
                    if (m.getParameterTypes()[i] == long.class) {
                        given[i] = numbers[i];
                    } else {
                        given[i] = (int) numbers[i];
                    }
                }
                return ((Number) m.invoke(on, given)).longValue();
            }
        }
        throw new IllegalStateException(name);
    }

    /** What comes behind an object's last call is free, so it is not made. */
    private void both(String name, long... numbers) throws Exception {
        if (made < CALLS) {
            made++;
            String call = "run " + run + ", call " + made + ", " + name + Arrays.toString(numbers);
            Check.due(call, answer(x, name, numbers), answer(oracle, name, numbers));
        }
    }

    private void bothFeed(String text) throws Exception {
        for (int i = 0; i < text.length(); i += 4) {
            int n = Math.min(4, text.length() - i);
            int v = 0;
            for (char c : text.substring(i, i + n).toCharArray()) {
                v = v << 8 | c;
            }
            both("feed", v, n);
        }
    }

    private void play() throws Exception {
        int last = CALLS - 19;
        while (made < last) {
            String name = calls.get(chance.nextInt(calls.size())).getName();
            if (name.equals("wall") && upTo(7) != 0) {
                both("wipe");
                bothFeed(text());
            }
            if (name.equals("set") && upTo(3) == 0) {
                fillRow();
            }
            both(name, arguments(name));
            // walls go back to what they were now and then, else all end with six SORTS
            if (upTo(60) == 0) {
                both("back");
            }
        }
        for (int what = -1; what <= 17; what++) {
            both("status", what);
        }
    }

    /** A ROW that can be a CARTFUL or a PLACING, or SORTS. */
    private void fillRow() throws Exception {
        int row = upTo(3);
        boolean asSorts = upTo(2) == 0;
        both("row", row, upTo(4) == 0 ? 3 : 2, 6 + upTo(10));
        for (int place = 0; place < (asSorts ? 8 : 6); place++) {
            int v = !asSorts ? upTo(3) - upTo(1)
                : place % 4 == 0 ? upTo(2) : place % 4 == 1 ? upTo(20) : 1 + upTo(30);
            both("set", row, place, v);
        }
    }

    public static void main(String[] args) throws Exception {
        List<Method> calls = weighted();
        for (int run = 0; run < 160; run++) {
            new OracleTest(run, calls).play();
        }
        Check.end("OracleTest");
    }
}
