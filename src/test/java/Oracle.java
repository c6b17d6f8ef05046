import java.util.ArrayList;
import java.util.List;
import java.util.regex.Matcher;
import java.util.regex.Pattern;

/**
 * The document once more, word by word and with no thought of speed: what OracleTest
 * holds ThreeSizes against. It shares nothing with the class but the promises.
 */
public final class Oracle {
    private static final int BAD = -2, OTHER = -3, NOTHING = -4, STUCK = -5, FULL = -6;
    private static final String[] KINDS = {"RULE", "LEAST", "KEEP", "SOME", "GREAT", "EVEN", "WISE"};
    private static final int[] UNDER = {-1, 0, 1, 1, 0, 4, 0};

    private static final class World {
        int[] boxes = {2, 2, 2}, full = {0, 0, 0}, goes = {3, 3, 3};
        List<int[]> sorts = new ArrayList<>();
        int near = 0, way = 5, seed = 1;
        int[] days = new int[6];

        World twin() {
            World t = new World();
            t.boxes = boxes.clone();
            t.full = full.clone();
            t.goes = goes.clone();
            for (int[] s : sorts) {
                t.sorts.add(s.clone());
            }
            t.near = near;
            t.way = way;
            t.seed = seed;
            t.days = days.clone();
            return t;
        }

        int together() {
            return sorts.stream().mapToInt(s -> s[1]).sum();
        }

        int[] free() {
            return new int[] {boxes[0] - full[0], boxes[1] - full[1], boxes[2] - full[2]};
        }

        long lost(int sort) {
            int[] s = sorts.get(sort);
            return 100000L * (near * (s[2] - way) - (10 - near) * s[3]);
        }
    }

    private static final class Held {
        int kind = -1, a, sort = -1;
        long[] row;
    }

    private World w = new World();
    private World image = null;
    private final Held[] shelf = new Held[8];
    private final List<Integer> tape = new ArrayList<>();
    private final int[] refusals = new int[5];

    private int no(int number) {
        refusals[-2 - number]++;
        return number;
    }

    private long far(int number) {
        return -1000000000000L + no(number);
    }

    private static boolean in(long v, long low, long high) {
        return v >= low && v <= high;
    }

    private static int told(int[] free) {
        return free[0] + 5 * free[1] + 25 * free[2];
    }

    private static int[] digits(int state) {
        return new int[] {state % 5, state / 5 % 5, state / 25};
    }

    private int wrongShelf(int s, boolean wantsRow) {
        if (shelf[s] == null) {
            return NOTHING;
        }
        return (shelf[s].row != null) == wantsRow ? 0 : OTHER;
    }

    // ---- hours and rules

    private interface Table {
        long at(int[] free);
    }

    /** The SIZE that what is best gives, of several none, then the least. */
    private static int bestPick(World w, int sort, int[] free, Table after) {
        int pick = -1;
        long most = w.lost(sort) + after.at(free);
        for (int z = w.sorts.get(sort)[0]; z <= 2; z++) {
            if (free[z] > 0) {
                int[] then = free.clone();
                then[z]--;
                long v = 1000000L * w.sorts.get(sort)[2] + after.at(then);
                if (v > most) {
                    most = v;
                    pick = z;
                }
            }
        }
        return pick;
    }

    private static int pick(World w, Held rule, int sort, int[] free, Table wise) {
        int own = w.sorts.get(sort)[0];
        List<Integer> such = new ArrayList<>();
        for (int z = own; z <= 2; z++) {
            if (free[z] > 0) {
                such.add(z);
            }
        }
        switch (KINDS[rule.kind]) {
            case "KEEP":
                such.removeIf(z -> z > own && free[z] <= rule.a);
                return such.isEmpty() ? -1 : such.get(0);
            case "SOME":
                return w.sorts.get(sort)[2] < rule.a || such.isEmpty() ? -1 : such.get(0);
            case "GREAT":
                return such.isEmpty() ? -1 : such.get(such.size() - 1);
            case "EVEN":
                int most = such.stream().mapToInt(z -> free[z]).max().orElse(-1);
                return such.stream().filter(z -> free[z] == most).mapToInt(z -> z).max().orElse(-1);
            case "WISE":
                return bestPick(w, sort, free, wise);
            default:
                return such.isEmpty() ? -1 : such.get(0);
        }
    }

    /** One HOUR: VALUE (or BEST, if there is no rule) by what is behind it. */
    private static long hour(World w, int[] goes, Held rule, int[] free, Table behind, Table wise) {
        long sum = 0;
        for (int fetched = 0; fetched < 8; fetched++) {
            long by = 1;
            int[] f = free.clone();
            for (int z = 0; z < 3; z++) {
                boolean gone = (fetched >> z & 1) == 1;
                boolean any = free[z] < w.boxes[z];
                by *= gone ? (any ? goes[z] : 0) : (any ? 10 - goes[z] : 10);
                f[z] += gone ? 1 : 0;
            }
            if (by == 0) {
                continue;
            }
            sum += by * (100 - w.together()) * behind.at(f);
            for (int i = 0; i < w.sorts.size(); i++) {
                int z = rule == null ? bestPick(w, i, f, behind) : pick(w, rule, i, f, wise);
                int[] then = f.clone();
                if (z >= 0) {
                    then[z]--;
                }
                long brought = z >= 0 ? 1000000L * w.sorts.get(i)[2] : w.lost(i);
                sum += by * w.sorts.get(i)[1] * (brought + behind.at(then));
            }
        }
        return sum / 100000;
    }

    private static Table table(World w, Held rule, int n) {
        Table wise = rule != null && rule.kind == 6 ? table(w, null, Math.min(20, rule.a)) : null;
        Table last = free -> 0;
        for (int i = 0; i < n; i++) {
            long[] next = new long[125];
            for (int state = 0; state < 125; state++) {
                int[] f = digits(state);
                if (f[0] <= w.boxes[0] && f[1] <= w.boxes[1] && f[2] <= w.boxes[2]) {
                    next[state] = hour(w, w.goes, rule, f, last, wise);
                }
            }
            last = free -> next[told(free)];
        }
        return last;
    }

    private static long bestOf(World w, int n) {
        return table(w, null, n).at(w.free());
    }

    // ---- the face

    public int row(int s, int sort, int n) {
        if (!in(s, 0, 7) || !in(sort, 0, 4) || !in(n, 0, 40)) {
            return no(BAD);
        }
        shelf[s] = new Held();
        shelf[s].sort = sort;
        shelf[s].row = new long[n];
        return 1;
    }

    public int set(int s, int i, long v) {
        if (!in(s, 0, 7)) {
            return no(BAD);
        }
        if (wrongShelf(s, true) != 0) {
            return no(wrongShelf(s, true));
        }
        if (!in(i, 0, shelf[s].row.length - 1)) {
            return no(BAD);
        }
        switch (shelf[s].sort) {
            case 0: v = (byte) v; break;
            case 1: v = (short) v; break;
            case 2: v = (int) v; break;
            case 4: v = v == 0 ? 0 : 1; break;
            default: break;
        }
        shelf[s].row[i] = v;
        return 1;
    }

    public int copy(int p, int q, int i, int j, int n) {
        if (!in(p, 0, 7) || !in(q, 0, 7)) {
            return no(BAD);
        }
        if (wrongShelf(p, true) == OTHER || wrongShelf(q, true) == OTHER) {
            return no(OTHER);
        }
        if (shelf[p] != null && shelf[q] != null && shelf[p].sort != shelf[q].sort) {
            return no(OTHER);
        }
        if (shelf[p] == null || shelf[q] == null) {
            return no(NOTHING);
        }
        if (n < 0 || i < 0 || j < 0 || (long) i + n > shelf[p].row.length || (long) j + n > shelf[q].row.length) {
            return no(BAD);
        }
        long[] were = shelf[p].row.clone();
        for (int x = 0; x < n; x++) {
            shelf[q].row[j + x] = were[i + x];
        }
        return n;
    }

    public long element(int s, int i) {
        if (!in(s, 0, 7) || wrongShelf(s, true) != 0 || !in(i, 0, shelf[s].row.length - 1)) {
            return 0;
        }
        return shelf[s].row[i];
    }

    public int holds(int s) {
        if (!in(s, 0, 7) || shelf[s] == null) {
            return -1;
        }
        return shelf[s].row != null ? shelf[s].sort : 10 + shelf[s].kind;
    }

    public int rule(int s, int kind, int a) {
        if (!in(s, 0, 7) || !in(kind, 1, 6) || !in(a, 0, 99)) {
            return no(BAD);
        }
        shelf[s] = new Held();
        shelf[s].kind = kind;
        shelf[s].a = a;
        return 1;
    }

    public int says(int s, int kind) {
        if (!in(s, 0, 7) || !in(kind, 0, 6)) {
            return no(BAD);
        }
        if (wrongShelf(s, false) == OTHER) {
            return no(OTHER);
        }
        if (shelf[s] == null) {
            return no(NOTHING);
        }
        int k = shelf[s].kind;
        while (k != -1 && k != kind) {
            k = UNDER[k];
        }
        if (k == -1) {
            return no(OTHER);
        }
        if (kind == 0) {
            return shelf[s].a;
        }
        if (kind == 6) {
            return Math.min(20, shelf[s].a);
        }
        return w.sorts.isEmpty() ? no(STUCK) : pick(w, shelf[s], 0, w.free(), null);
    }

    public int size(int size, int what, int v) {
        if (!in(size, 0, 2) || !in(what, 0, 2) || !in(v, 0, what == 2 ? 10 : 4)) {
            return no(BAD);
        }
        int was = what == 0 ? w.boxes[size] : what == 1 ? w.full[size] : w.goes[size];
        if (what == 0) {
            if (v < w.full[size]) {
                return no(STUCK);
            }
            w.boxes[size] = v;
        } else if (what == 1) {
            if (v > w.boxes[size]) {
                return no(STUCK);
            }
            w.full[size] = v;
        } else {
            w.goes[size] = v;
        }
        return was;
    }

    private int sortTrouble(long size, long comes, long worth, long back) {
        if (!in(size, 0, 2) || !in(comes, 0, 100) || !in(worth, 1, 99) || !in(back, 0, 99)) {
            return BAD;
        }
        if (w.together() + comes > 100) {
            return STUCK;
        }
        return w.sorts.size() == 6 ? FULL : 0;
    }

    public int sort(int size, int comes, int worth, int back) {
        int trouble = sortTrouble(size, comes, worth, back);
        if (trouble != 0) {
            return no(trouble);
        }
        w.sorts.add(new int[] {size, comes, worth, back});
        return w.sorts.size() - 1;
    }

    public int sorts(int s, int n) {
        if (!in(s, 0, 7)) {
            return no(BAD);
        }
        if (wrongShelf(s, true) != 0) {
            return no(wrongShelf(s, true));
        }
        if (n < 0 || n % 4 != 0 || n > shelf[s].row.length) {
            return no(BAD);
        }
        long[] r = shelf[s].row;
        for (int i = 0; i < n; i += 4) {
            if (sortTrouble(r[i], r[i + 1], r[i + 2], r[i + 3]) != 0) {
                return i / 4;
            }
            w.sorts.add(new int[] {(int) r[i], (int) r[i + 1], (int) r[i + 2], (int) r[i + 3]});
        }
        return n / 4;
    }

    private boolean isSort(long sort) {
        return in(sort, 0, w.sorts.size() - 1);
    }

    public int sortOf(int sort, int what) {
        return isSort(sort) && in(what, 0, 3) ? w.sorts.get(sort)[what] : no(BAD);
    }

    public int ask(int what, int v) {
        if (!in(what, 0, 1) || !in(v, 0, what == 0 ? 10 : 99)) {
            return no(BAD);
        }
        int was = what == 0 ? w.near : w.way;
        if (what == 0) {
            w.near = v;
        } else {
            w.way = v;
        }
        return was;
    }

    public int feed(int v, int n) {
        if (!in(n, 1, 4)) {
            return no(BAD);
        }
        if (tape.size() + n > 200) {
            return no(FULL);
        }
        for (int i = n - 1; i >= 0; i--) {
            tape.add(v >>> 8 * i & 255);
        }
        return tape.size();
    }

    public int wipe() {
        int was = tape.size();
        tape.clear();
        return was;
    }

    private static final Pattern TOKEN = Pattern.compile("[a-z]+|[0-9]+|;|[^ ]", Pattern.DOTALL);

    @SuppressWarnings("serial")
    private static final class Fault extends Exception {
        final int place;

        Fault(int place) {
            this.place = place;
        }
    }

    private static final class Tokens {
        final List<String> texts = new ArrayList<>();
        final List<Integer> places = new ArrayList<>();
        int at = 0;

        String look() {
            return texts.get(at);
        }

        Fault fault() {
            return new Fault(places.get(at));
        }

        int number(int low, int high) throws Fault {
            String t = look();
            if (!t.matches("[0-9]{1,3}") || !in(Integer.parseInt(t), low, high)) {
                throw fault();
            }
            at++;
            return Integer.parseInt(t);
        }

        void word(String word) throws Fault {
            if (!look().equals(word)) {
                throw fault();
            }
            at++;
        }
    }

    private void statement(World t, Tokens in) throws Fault {
        switch (in.look()) {
            case "box": {
                in.at++;
                int z = in.number(0, 2);
                t.boxes[z] = in.number(t.full[z], 4);
                return;
            }
            case "goes": {
                in.at++;
                int z = in.number(0, 2);
                t.goes[z] = in.number(0, 10);
                return;
            }
            case "near":
                in.at++;
                t.near = in.number(0, 10);
                return;
            case "way":
                in.at++;
                t.way = in.number(0, 99);
                return;
            case "sort": {
                if (t.sorts.size() == 6) {
                    throw in.fault();
                }
                in.at++;
                int[] s = {in.number(0, 2), 0, 10, 5};
                in.word("comes");
                s[1] = in.number(0, 100 - t.together());
                if (in.look().equals("worth")) {
                    in.at++;
                    s[2] = in.number(1, 99);
                }
                if (in.look().equals("back")) {
                    in.at++;
                    s[3] = in.number(0, 99);
                }
                t.sorts.add(s);
                return;
            }
            default:
                throw in.fault();
        }
    }

    public int wall() {
        StringBuilder text = new StringBuilder();
        for (int b : tape) {
            text.append((char) b);
        }
        tape.clear();
        Tokens in = new Tokens();
        Matcher m = TOKEN.matcher(text);
        while (m.find()) {
            in.texts.add(m.group());
            in.places.add(m.start());
        }
        in.texts.add("");
        in.places.add(text.length());
        World t = w.twin();
        int count = 0;
        try {
            while (true) {
                statement(t, in);
                count++;
                if (in.look().isEmpty()) {
                    break;
                }
                in.word(";");
            }
        } catch (Fault f) {
            no(BAD);
            return -20 - f.place;
        }
        w = t;
        return count;
    }

    public int state(int what) {
        int[] f = w.free();
        switch (what) {
            case 0: return f[0] + f[1] + f[2];
            case 1: return w.full[0] + w.full[1] + w.full[2];
            case 2: return told(f);
            default: return no(BAD);
        }
    }

    private boolean isState(int state) {
        if (!in(state, 0, 124)) {
            return false;
        }
        int[] f = digits(state);
        return f[0] <= w.boxes[0] && f[1] <= w.boxes[1] && f[2] <= w.boxes[2];
    }

    public int gets(int s, int sort, int state) {
        if (!in(s, 0, 7) || !isSort(sort) || !isState(state)) {
            return no(BAD);
        }
        if (wrongShelf(s, false) != 0) {
            return no(wrongShelf(s, false));
        }
        return pick(w, shelf[s], sort, digits(state), table(w, null, Math.min(20, shelf[s].a)));
    }

    public long lost(int sort) {
        return isSort(sort) ? w.lost(sort) : far(BAD);
    }

    public long value(int s, int n) {
        if (!in(s, 0, 7) || !in(n, 0, 24)) {
            return far(BAD);
        }
        if (wrongShelf(s, false) != 0) {
            return far(wrongShelf(s, false));
        }
        return table(w, shelf[s], n).at(w.free());
    }

    public long best(int n) {
        return in(n, 0, 24) ? bestOf(w, n) : far(BAD);
    }

    public int now(int sort, int n) {
        return isSort(sort) && in(n, 0, 24) ? bestPick(w, sort, w.free(), table(w, null, n)) : no(BAD);
    }

    public long gap(int s, int n) {
        if (!in(s, 0, 7) || !in(n, 0, 24)) {
            return far(BAD);
        }
        if (wrongShelf(s, false) != 0) {
            return far(wrongShelf(s, false));
        }
        return bestOf(w, n) - table(w, shelf[s], n).at(w.free());
    }

    public int head(int n) {
        if (!in(n, 0, 24)) {
            return no(BAD);
        }
        int first = -1;
        long most = Long.MIN_VALUE;
        for (int s = 0; s < 8; s++) {
            if (wrongShelf(s, false) == 0) {
                long v = table(w, shelf[s], n).at(w.free());
                if (v > most) {
                    most = v;
                    first = s;
                }
            }
        }
        return first < 0 ? no(STUCK) : first;
    }

    public int keep(int n) {
        if (!in(n, 0, 24)) {
            return no(BAD);
        }
        int least = -1;
        long most = Long.MIN_VALUE;
        for (int a = 0; a <= 4; a++) {
            Held h = new Held();
            h.kind = 2;
            h.a = a;
            long v = table(w, h, n).at(w.free());
            if (v > most) {
                most = v;
                least = a;
            }
        }
        return least;
    }

    public long cart(int s, int k, int n, int what) {
        if (!in(s, 0, 7) || !in(k, 0, 6) || !in(n, 0, 24) || !in(what, -1, k - 1)) {
            return far(BAD);
        }
        if (wrongShelf(s, true) != 0) {
            return far(wrongShelf(s, true));
        }
        if (!isCart(s, k)) {
            return far(BAD);
        }
        Table behind = table(w, null, n);
        long most = Long.MIN_VALUE;
        int[] first = null;
        for (int code = 0; code < 1 << 2 * k; code++) {
            int[] way = new int[k];
            int[] free = w.free();
            long sum = 0;
            boolean fits = true;
            for (int i = 0; i < k; i++) {
                way[i] = (code >> 2 * (k - 1 - i) & 3) - 1;
                int sort = (int) shelf[s].row[i];
                if (way[i] < 0) {
                    sum += w.lost(sort);
                } else {
                    fits &= way[i] >= w.sorts.get(sort)[0] && --free[way[i]] >= 0;
                    sum += 1000000L * w.sorts.get(sort)[2];
                }
            }
            if (fits && sum + behind.at(free) > most) {
                most = sum + behind.at(free);
                first = way;
            }
        }
        return what < 0 ? most : first[what];
    }

    private boolean isCart(int s, int k) {
        if (shelf[s].row.length < k) {
            return false;
        }
        for (int i = 0; i < k; i++) {
            if (!isSort(shelf[s].row[i])) {
                return false;
            }
        }
        return true;
    }

    private int placingTrouble(int s, int t, int k) {
        if (!in(s, 0, 7) || !in(t, 0, 7) || !in(k, 0, 6)) {
            return BAD;
        }
        if (wrongShelf(s, true) == OTHER || wrongShelf(t, true) == OTHER) {
            return OTHER;
        }
        if (shelf[s] == null || shelf[t] == null) {
            return NOTHING;
        }
        return isCart(s, k) && shelf[t].row.length >= k ? 0 : BAD;
    }

    private int wrongAt(int s, int t, int k, int[] free) {
        for (int i = 0; i < k; i++) {
            long z = shelf[t].row[i];
            if (in(z, 0, 2)) {
                if (z < w.sorts.get((int) shelf[s].row[i])[0] || free[(int) z] == 0) {
                    return i;
                }
                free[(int) z]--;
            }
        }
        return -1;
    }

    public int judge(int s, int t, int k) {
        int trouble = placingTrouble(s, t, k);
        return trouble != 0 ? no(trouble) : wrongAt(s, t, k, w.free());
    }

    public int put(int s, int t, int k) {
        int trouble = placingTrouble(s, t, k);
        if (trouble != 0) {
            return no(trouble);
        }
        int[] free = w.free();
        if (wrongAt(s, t, k, free) >= 0) {
            return no(STUCK);
        }
        int got = 0;
        for (int z = 0; z < 3; z++) {
            got += w.free()[z] - free[z];
            w.full[z] = w.boxes[z] - free[z];
        }
        return got;
    }

    public int build(int wall, int n, int what) {
        if (!in(wall, 0, 30) || !in(n, 0, 24) || !in(what, 0, 1)) {
            return no(BAD);
        }
        long most = Long.MIN_VALUE;
        int[] built = null;
        for (int b2 = 0; b2 <= 4; b2++) {
            for (int b1 = 0; b1 <= 4; b1++) {
                for (int b0 = 0; b0 <= 4; b0++) {
                    if (b0 + 2 * b1 + 4 * b2 <= wall) {
                        World t = w.twin();
                        t.boxes = new int[] {b0, b1, b2};
                        t.full = new int[3];
                        long v = bestOf(t, n);
                        if (v > most) {
                            most = v;
                            built = t.boxes;
                        }
                    }
                }
            }
        }
        return what == 0 ? told(built) : built[0] + 2 * built[1] + 4 * built[2];
    }

    public long worth(int size, int n) {
        if (!in(size, 0, 2) || !in(n, 0, 24)) {
            return far(BAD);
        }
        if (w.free()[size] == 0) {
            return far(STUCK);
        }
        World t = w.twin();
        t.boxes[size]--;
        return bestOf(w, n) - bestOf(t, n);
    }

    public long price(int size, int n) {
        if (!in(size, 0, 2) || !in(n, 0, 24)) {
            return far(BAD);
        }
        if (w.free()[size] == 0) {
            return far(STUCK);
        }
        World t = w.twin();
        t.full[size]++;
        return bestOf(w, n) - bestOf(t, n);
    }

    public long brings(int sort, int n) {
        if (!isSort(sort) || !in(n, 0, 24)) {
            return far(BAD);
        }
        World t = w.twin();
        t.sorts.get(sort)[1] = 0;
        return bestOf(w, n) - bestOf(t, n);
    }

    public int fits(int sort) {
        if (!isSort(sort)) {
            return no(BAD);
        }
        int bits = 0;
        for (int z = 0; z < 3; z++) {
            bits |= z >= w.sorts.get(sort)[0] && w.free()[z] > 0 ? 1 << z : 0;
        }
        return bits;
    }

    public int worst(int n) {
        if (!in(n, 0, 24)) {
            return no(BAD);
        }
        Table t = table(w, null, n);
        long least = Long.MAX_VALUE;
        int worst = -1;
        for (int state = 0; state < 125; state++) {
            if (isState(state) && t.at(digits(state)) < least) {
                least = t.at(digits(state));
                worst = state;
            }
        }
        return worst;
    }

    public long board(int n) {
        if (!in(n, 0, 24)) {
            return far(BAD);
        }
        if (w.free()[2] == 0) {
            return far(STUCK);
        }
        World t = w.twin();
        t.boxes[2]--;
        t.boxes[0] = Math.min(4, t.boxes[0] + 3);
        return bestOf(t, n) - bestOf(w, n);
    }

    private long letterOf(int size, int n) {
        int[] more = w.goes.clone();
        more[size] = Math.min(10, more[size] + 3);
        return hour(w, more, null, w.free(), table(w, null, n - 1), null) - bestOf(w, n);
    }

    public long letter(int size, int n) {
        return in(size, 0, 2) && in(n, 1, 24) ? letterOf(size, n) : far(BAD);
    }

    public int whom(int n) {
        if (!in(n, 1, 24)) {
            return no(BAD);
        }
        long[] l = {letterOf(0, n), letterOf(1, n), letterOf(2, n)};
        long most = Math.max(l[0], Math.max(l[1], l[2]));
        return most <= 0 ? -1 : l[0] == most ? 0 : l[1] == most ? 1 : 2;
    }

    public long feast(int k, int n) {
        if (!in(k, 0, 50) || !in(n, 0, 24)) {
            return far(BAD);
        }
        World t = w.twin();
        for (int[] s : t.sorts) {
            s[1] += k;
        }
        return t.together() > 100 ? far(STUCK) : bestOf(t, n) - bestOf(w, n);
    }

    private int draw(int n) {
        w.seed = (int) (w.seed * 1103515245L + 12345L);
        return (int) ((w.seed & 0xffffffffL) / 65536 % n);
    }

    public int go(int s, int n) {
        if (!in(s, 0, 7) || !in(n, 1, 200)) {
            return -1000000 + no(BAD);
        }
        if (wrongShelf(s, false) != 0) {
            return -1000000 + no(wrongShelf(s, false));
        }
        Table wise = table(w, null, Math.min(20, shelf[s].a));
        int before = w.days[5];
        for (int h = 0; h < n; h++) {
            w.days[0]++;
            for (int z = 0; z < 3; z++) {
                if (w.full[z] > 0 && draw(10) < w.goes[z]) {
                    w.full[z]--;
                    w.days[4]++;
                }
            }
            int d = draw(100);
            int low = 0;
            for (int i = 0; i < w.sorts.size(); i++) {
                int[] sort = w.sorts.get(i);
                if (d >= low && d < low + sort[1]) {
                    int z = pick(w, shelf[s], i, w.free(), wise);
                    if (z >= 0) {
                        w.full[z]++;
                        w.days[1]++;
                        w.days[5] += sort[2];
                    } else if (draw(10) < w.near) {
                        w.days[2]++;
                        w.days[5] += sort[2] - w.way;
                    } else {
                        w.days[3]++;
                        w.days[5] -= sort[3];
                    }
                }
                low += sort[1];
            }
        }
        return w.days[5] - before;
    }

    public int day(int what) {
        return in(what, 0, 5) ? w.days[what] : -1000000 + no(BAD);
    }

    public int seed(int v) {
        int was = w.seed;
        w.seed = v;
        return was;
    }

    public int image() {
        image = w.twin();
        return 1;
    }

    public int back() {
        if (image == null) {
            return no(STUCK);
        }
        w = image.twin();
        return 1;
    }

    public int status(int what) {
        switch (what) {
            case 0: return w.sorts.size();
            case 1: case 2: case 3: return w.boxes[what - 1];
            case 4: case 5: case 6: return w.full[what - 4];
            case 7: return tape.size();
            case 8: return w.seed;
            case 9:
                int used = 0;
                for (Held h : shelf) {
                    used += h == null ? 0 : 1;
                }
                return used;
            case 10: return w.near;
            case 11: return w.way;
            case 12: case 13: case 14: case 15: case 16: return refusals[what - 12];
            default: return -1;
        }
    }
}
