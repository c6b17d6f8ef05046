/** A wall of lockers of three sizes; ../shared/DOC.md says what every call promises. */
public final class ThreeSizes {
    public static final int NONE = -1;

    private static final int BAD = -2;
    private static final int OTHER = -3;
    private static final int NOTHING = -4;
    private static final int STUCK = -5;
    private static final int FULL = -6;
    private static final int REFUSAL_KINDS = 5;

    // Answers that may be below 0 by themselves tell a refusal from farther down.
    private static final long FAR_BELOW = -1000000000000L;
    private static final int BELOW = -1000000;

    private static final int SHELVES = 8;
    private static final int MOST_ELEMENTS = 40;
    private static final int MOST_HOURS = 24;
    private static final int MOST_HOURS_IN_TRUTH = 200;
    private static final int MOST_IN_CART = 6;
    private static final int MOST_WALL = 30;
    private static final int MOST_FEAST = 50;
    private static final int LETTER_MORE = 3;

    private final Wall real = new Wall();
    private final Wall trial = new Wall();
    private final Wall kept = new Wall();
    private final Hours hours = new Hours();
    private final Tape tape = new Tape();
    private final Thing[] shelves = new Thing[SHELVES];
    private final int[] refusals = new int[REFUSAL_KINDS];
    private boolean isKept;

    public ThreeSizes() {
    }

    // ---- shelves and what they hold

    public int row(int s, int sort, int n) {
        if (!isShelf(s) || sort < 0 || sort > Row.BOOLEANS || n < 0 || n > MOST_ELEMENTS) {
            return refuse(BAD);
        }
        shelves[s] = new Row(sort, n);
        return 1;
    }

    public int set(int s, int i, long v) {
        Row r = rowIn(s);
        if (r == null) {
            return refuse(troubleWithRow(s));
        }
        if (!r.has(i)) {
            return refuse(BAD);
        }
        r.change(i, v);
        return 1;
    }

    public int copy(int p, int q, int i, int j, int n) {
        int trouble = troubleWithRows(p, q);
        if (trouble != 0) {
            return refuse(trouble);
        }
        Row from = rowIn(p);
        Row to = rowIn(q);
        if (from == null || to == null || from.sort != to.sort) {
            return refuse(OTHER);
        }
        if (!from.hasPart(i, n) || !to.hasPart(j, n)) {
            return refuse(BAD);
        }
        System.arraycopy(from.elements, i, to.elements, j, n);
        return n;
    }

    public long element(int s, int i) {
        Row r = rowIn(s);
        return r != null && r.has(i) ? r.elements[i] : 0;
    }

    public int holds(int s) {
        if (!isShelf(s)) {
            return NONE;
        }
        Thing thing = shelves[s];
        return thing == null ? NONE : thing.told();
    }

    public int rule(int s, int kind, int a) {
        if (!isShelf(s) || a < 0 || a > 99) {
            return refuse(BAD);
        }
        Rule r = ruleOfKind(kind, a);
        if (r == null) {
            return refuse(BAD);
        }
        shelves[s] = r;
        return 1;
    }

    public int says(int s, int kind) {
        if (!isShelf(s) || kind < Rule.RULE || kind > Rule.WISE) {
            return refuse(BAD);
        }
        Rule r = ruleIn(s);
        if (r == null) {
            return refuse(troubleWithRule(s));
        }
        if (!r.isOf(kind)) {
            return refuse(OTHER);
        }
        if (kind == Rule.RULE) {
            return r.a;
        }
        if (kind == Rule.WISE) {
            return r.hoursThatCount();
        }
        return real.count == 0 ? refuse(STUCK) : givenBy(r, 0, real.stateNow());
    }

    // ---- the wall and its sorts

    public int size(int size, int what, int v) {
        if (!isSize(size) || what < 0 || what > 2 || v < 0 || v > (what == 2 ? 10 : Wall.MOST_BOXES)) {
            return refuse(BAD);
        }
        if (what == 0 && v < real.full[size] || what == 1 && v > real.boxes[size]) {
            return refuse(STUCK);
        }
        int[] numbers = what == 0 ? real.boxes : what == 1 ? real.full : real.goes;
        int ahead = numbers[size];
        numbers[size] = v;
        return ahead;
    }

    public int sort(int size, int comes, int worth, int back) {
        int trouble = real.troubleWithSort(size, comes, worth, back);
        if (trouble != 0) {
            return refuse(trouble);
        }
        real.addSort(size, comes, worth, back);
        return real.count - 1;
    }

    public int sorts(int s, int n) {
        Row r = rowIn(s);
        if (r == null) {
            return refuse(troubleWithRow(s));
        }
        if (n % 4 != 0 || !r.hasPart(0, n)) {
            return refuse(BAD);
        }
        long[] e = r.elements;
        int came = 0;
        for (int i = 0; i + 3 < n; i += 4) {
            if (real.troubleWithSort(e[i], e[i + 1], e[i + 2], e[i + 3]) != 0) {
                break;
            }
            real.addSort((int) e[i], (int) e[i + 1], (int) e[i + 2], (int) e[i + 3]);
            came++;
        }
        return came;
    }

    public int sortOf(int sort, int what) {
        if (!real.isSort(sort)) {
            return refuse(BAD);
        }
        switch (what) {
            case 0: return real.sizeOf[sort];
            case 1: return real.comesOf[sort];
            case 2: return real.worthOf[sort];
            case 3: return real.backOf[sort];
            default: return refuse(BAD);
        }
    }

    public int ask(int what, int v) {
        if (what < 0 || what > 1 || v < 0 || v > (what == 0 ? 10 : 99)) {
            return refuse(BAD);
        }
        int ahead = what == 0 ? real.near : real.way;
        if (what == 0) {
            real.near = v;
        } else {
            real.way = v;
        }
        return ahead;
    }

    public int feed(int v, int n) {
        if (n < 1 || n > 4) {
            return refuse(BAD);
        }
        if (tape.length + n > Tape.MOST) {
            return refuse(FULL);
        }
        tape.add(v, n);
        return tape.length;
    }

    public int wipe() {
        int ahead = tape.length;
        tape.length = 0;
        return ahead;
    }

    public int wall() {
        trial.becomes(real);
        int told = tape.readInto(trial);
        tape.length = 0;
        if (told < 0) {
            refuse(BAD);
        } else {
            real.becomes(trial);
        }
        return told;
    }

    public int state(int what) {
        switch (what) {
            case 0: return real.freeOf(0) + real.freeOf(1) + real.freeOf(2);
            case 1: return real.full[0] + real.full[1] + real.full[2];
            case 2: return real.stateNow();
            default: return refuse(BAD);
        }
    }

    // ---- rules and what they bring

    public int gets(int s, int sort, int state) {
        if (!isShelf(s) || !real.isSort(sort) || !real.isState(state)) {
            return refuse(BAD);
        }
        Rule r = ruleIn(s);
        return r == null ? refuse(troubleWithRule(s)) : givenBy(r, sort, state);
    }

    public long lost(int sort) {
        return real.isSort(sort) ? real.lostOf(sort) : refuseFar(BAD);
    }

    public long value(int s, int n) {
        if (!isShelf(s) || !areHours(n)) {
            return refuseFar(BAD);
        }
        Rule r = ruleIn(s);
        return r == null ? refuseFar(troubleWithRule(s)) : valueNow(r, n);
    }

    public long best(int n) {
        return areHours(n) ? bestIn(real, n) : refuseFar(BAD);
    }

    public int now(int sort, int n) {
        if (!real.isSort(sort) || !areHours(n)) {
            return refuse(BAD);
        }
        hours.makeBest(real, n);
        return real.bestSize(sort, real.stateNow(), hours.values, 0);
    }

    public long gap(int s, int n) {
        if (!isShelf(s) || !areHours(n)) {
            return refuseFar(BAD);
        }
        Rule r = ruleIn(s);
        return r == null ? refuseFar(troubleWithRule(s)) : bestIn(real, n) - valueNow(r, n);
    }

    public int head(int n) {
        if (!areHours(n)) {
            return refuse(BAD);
        }
        int first = NONE;
        long greatest = 0;
        for (int s = 0; s < SHELVES; s++) {
            Rule r = ruleIn(s);
            if (r != null) {
                long v = valueNow(r, n);
                if (first == NONE || v > greatest) {
                    first = s;
                    greatest = v;
                }
            }
        }
        return first == NONE ? refuse(STUCK) : first;
    }

    public int keep(int n) {
        if (!areHours(n)) {
            return refuse(BAD);
        }
        int least = 0;
        long greatest = 0;
        for (int a = 0; a <= Wall.MOST_BOXES; a++) {
            long v = valueNow(new Keep(a), n);
            if (a == 0 || v > greatest) {
                least = a;
                greatest = v;
            }
        }
        return least;
    }

    // ---- cartfuls

    public long cart(int s, int k, int n, int what) {
        if (!isShelf(s) || !fitsCart(k) || !areHours(n) || what < NONE || what >= k) {
            return refuseFar(BAD);
        }
        Row r = rowIn(s);
        if (r == null) {
            return refuseFar(troubleWithRow(s));
        }
        if (!isCartful(r, k)) {
            return refuseFar(BAD);
        }
        hours.makeBest(real, n);
        hours.makeTails(real, r.elements, k);
        int state = real.stateNow();
        return what == NONE ? hours.tails[state] : hours.sizePlaced(real, r.elements, what, state);
    }

    public int judge(int s, int t, int k) {
        int trouble = troubleWithPlacing(s, t, k);
        return trouble != 0 ? refuse(trouble) : wrongPlace(rowIn(s), rowIn(t), k);
    }

    public int put(int s, int t, int k) {
        int trouble = troubleWithPlacing(s, t, k);
        if (trouble != 0) {
            return refuse(trouble);
        }
        Row placing = rowIn(t);
        if (placing == null || wrongPlace(rowIn(s), placing, k) != NONE) {
            return refuse(STUCK);
        }
        int got = 0;
        for (int i = 0; i < k; i++) {
            int size = placing.sizeAt(i);
            if (size != NONE) {
                real.full[size]++;
                got++;
            }
        }
        return got;
    }

    // ---- what if the wall were another

    public int build(int wall, int n, int what) {
        if (wall < 0 || wall > MOST_WALL || !areHours(n) || what < 0 || what > 1) {
            return refuse(BAD);
        }
        trial.becomes(real);
        trial.empty();
        int built = 0;
        long greatest = 0;
        // STATES in rising order are the order in which the first of several is due.
        for (int state = 0; state < Wall.STATES; state++) {
            if (Wall.room(state) <= wall) {
                trial.haveBoxes(state);
                long v = bestIn(trial, n);
                if (state == 0 || v > greatest) {
                    built = state;
                    greatest = v;
                }
            }
        }
        return what == 0 ? built : Wall.room(built);
    }

    public long worth(int size, int n) {
        if (!isSize(size) || !areHours(n)) {
            return refuseFar(BAD);
        }
        if (real.freeOf(size) < 1) {
            return refuseFar(STUCK);
        }
        trial.becomes(real);
        trial.boxes[size]--;
        return bestIn(real, n) - bestIn(trial, n);
    }

    public long price(int size, int n) {
        if (!isSize(size) || !areHours(n)) {
            return refuseFar(BAD);
        }
        if (real.freeOf(size) < 1) {
            return refuseFar(STUCK);
        }
        hours.makeBest(real, n);
        int state = real.stateNow();
        return hours.values[state] - hours.values[state - Wall.STEP[size]];
    }

    public long brings(int sort, int n) {
        if (!real.isSort(sort) || !areHours(n)) {
            return refuseFar(BAD);
        }
        trial.becomes(real);
        trial.comesOf[sort] = 0;
        return bestIn(real, n) - bestIn(trial, n);
    }

    public int fits(int sort) {
        if (!real.isSort(sort)) {
            return refuse(BAD);
        }
        int bits = 0;
        for (int size = real.sizeOf[sort]; size < Wall.SIZES; size++) {
            if (real.freeOf(size) > 0) {
                bits |= 1 << size;
            }
        }
        return bits;
    }

    public int worst(int n) {
        if (!areHours(n)) {
            return refuse(BAD);
        }
        hours.makeBest(real, n);
        return hours.leastState();
    }

    public long board(int n) {
        if (!areHours(n)) {
            return refuseFar(BAD);
        }
        if (real.freeOf(2) < 1) {
            return refuseFar(STUCK);
        }
        trial.becomes(real);
        trial.boxes[2]--;
        trial.boxes[0] = Math.min(Wall.MOST_BOXES, trial.boxes[0] + 3);
        return bestIn(trial, n) - bestIn(real, n);
    }

    public long letter(int size, int n) {
        if (!isSize(size) || n < 1 || !areHours(n)) {
            return refuseFar(BAD);
        }
        hours.makeBest(real, n - 1);
        return broughtByLetter(size);
    }

    public int whom(int n) {
        if (n < 1 || !areHours(n)) {
            return refuse(BAD);
        }
        hours.makeBest(real, n - 1);
        int least = NONE;
        long most = 0;
        for (int size = 0; size < Wall.SIZES; size++) {
            long brought = broughtByLetter(size);
            if (brought > most) {
                least = size;
                most = brought;
            }
        }
        return least;
    }

    public long feast(int k, int n) {
        if (k < 0 || k > MOST_FEAST || !areHours(n)) {
            return refuseFar(BAD);
        }
        if (real.comesTogether() + k * real.count > 100) {
            return refuseFar(STUCK);
        }
        trial.becomes(real);
        for (int i = 0; i < trial.count; i++) {
            trial.comesOf[i] += k;
        }
        return bestIn(trial, n) - bestIn(real, n);
    }

    // ---- in truth

    public int go(int s, int n) {
        if (!isShelf(s) || n < 1 || n > MOST_HOURS_IN_TRUTH) {
            return BELOW + refuse(BAD);
        }
        Rule r = ruleIn(s);
        if (r == null) {
            return BELOW + refuse(troubleWithRule(s));
        }
        hours.makePlan(real, r);
        int brought = 0;
        for (int i = 0; i < n; i++) {
            brought += real.hourInTruth(hours.plan);
        }
        return brought;
    }

    public int day(int what) {
        return what < 0 || what >= Wall.DAY_NUMBERS ? BELOW + refuse(BAD) : real.days[what];
    }

    public int seed(int v) {
        int ahead = real.seed;
        real.seed = v;
        return ahead;
    }

    public int image() {
        kept.becomes(real);
        isKept = true;
        return 1;
    }

    public int back() {
        if (!isKept) {
            return refuse(STUCK);
        }
        real.becomes(kept);
        return 1;
    }

    public int status(int what) {
        if (what >= 12 && what < 12 + REFUSAL_KINDS) {
            return refusals[what - 12];
        }
        switch (what) {
            case 0: return real.count;
            case 1:
            case 2:
            case 3: return real.boxes[what - 1];
            case 4:
            case 5:
            case 6: return real.full[what - 4];
            case 7: return tape.length;
            case 8: return real.seed;
            case 9: return shelvesInUse();
            case 10: return real.near;
            case 11: return real.way;
            default: return NONE;
        }
    }

    // ---- refusals

    private int refuse(int number) {
        int kind = BAD - number;
        if (kind >= 0 && kind < REFUSAL_KINDS) {
            refusals[kind]++;
        }
        return number;
    }

    private long refuseFar(int number) {
        return FAR_BELOW + refuse(number);
    }

    private static boolean isShelf(int s) {
        return s >= 0 && s < SHELVES;
    }

    private static boolean isSize(int size) {
        return size >= 0 && size < Wall.SIZES;
    }

    private static boolean areHours(int n) {
        return n >= 0 && n <= MOST_HOURS;
    }

    private static boolean fitsCart(int k) {
        return k >= 0 && k <= MOST_IN_CART;
    }

    private Row rowIn(int s) {
        return isShelf(s) && shelves[s] instanceof Row r ? r : null;
    }

    private Rule ruleIn(int s) {
        return isShelf(s) && shelves[s] instanceof Rule r ? r : null;
    }

    /** 0 if SHELF s holds a ROW, else the refusal that is due. */
    private int troubleWithRow(int s) {
        if (!isShelf(s)) {
            return BAD;
        }
        return shelves[s] == null ? NOTHING : shelves[s] instanceof Row ? 0 : OTHER;
    }

    private int troubleWithRule(int s) {
        if (!isShelf(s)) {
            return BAD;
        }
        return shelves[s] == null ? NOTHING : shelves[s] instanceof Rule ? 0 : OTHER;
    }

    private int troubleWithRows(int p, int q) {
        int first = troubleWithRow(p);
        int second = troubleWithRow(q);
        if (first == BAD || second == BAD) {
            return BAD;
        }
        if (first == OTHER || second == OTHER) {
            return OTHER;
        }
        return first != 0 ? first : second;
    }

    private int troubleWithPlacing(int s, int t, int k) {
        if (!fitsCart(k)) {
            return BAD;
        }
        int trouble = troubleWithRows(s, t);
        if (trouble != 0) {
            return trouble;
        }
        Row placing = rowIn(t);
        return placing != null && placing.hasPart(0, k) && isCartful(rowIn(s), k) ? 0 : BAD;
    }

    // ---- parts of the calls above

    private boolean isCartful(Row r, int k) {
        if (r == null || !r.hasPart(0, k)) {
            return false;
        }
        for (int i = 0; i < k; i++) {
            if (!real.isSort(r.elements[i])) {
                return false;
            }
        }
        return true;
    }

    /** Where a PLACING of a CARTFUL is WRONG; both have been looked at by troubleWithPlacing. */
    private int wrongPlace(Row cartful, Row placing, int k) {
        if (cartful == null || placing == null) {
            return NONE;
        }
        int state = real.stateNow();
        for (int i = 0; i < k; i++) {
            int size = placing.sizeAt(i);
            if (size != NONE) {
                if (size < real.sizeOf[(int) cartful.elements[i]] || Wall.freeIn(state, size) < 1) {
                    return i;
                }
                state -= Wall.STEP[size];
            }
        }
        return NONE;
    }

    private static Rule ruleOfKind(int kind, int a) {
        switch (kind) {
            case Rule.LEAST: return new Least(a);
            case Rule.KEEP: return new Keep(a);
            case Rule.SOME: return new Some(a);
            case Rule.GREAT: return new Great(a);
            case Rule.EVEN: return new Even(a);
            case Rule.WISE: return new Wise(a);
            default: return null;
        }
    }

    private int givenBy(Rule r, int sort, int state) {
        hours.makeBest(real, r.hoursThatCount());
        return r.picks(real, sort, state, hours.values);
    }

    private long valueNow(Rule r, int n) {
        hours.makePlan(real, r);
        hours.makeValue(real, n);
        return hours.values[real.stateNow()];
    }

    private long bestIn(Wall w, int n) {
        hours.makeBest(w, n);
        return hours.values[w.stateNow()];
    }

    /** Wants BEST of one HOUR fewer, as the wall really is, in hours. */
    private long broughtByLetter(int size) {
        trial.becomes(real);
        trial.goes[size] = Math.min(10, real.goes[size] + LETTER_MORE);
        int state = real.stateNow();
        return hours.bestOfOneMore(trial, state) - hours.bestOfOneMore(real, state);
    }

    private int shelvesInUse() {
        int used = 0;
        for (int s = 0; s < SHELVES; s++) {
            if (shelves[s] != null) {
                used++;
            }
        }
        return used;
    }

    /** What a SHELF can hold. */
    private abstract static class Thing {
        abstract int told();
    }

    /** A ROW; its elements are held as numbers that its SORT can hold. */
    private static final class Row extends Thing {
        static final int BYTES = 0;
        static final int SHORTS = 1;
        static final int INTS = 2;
        static final int BOOLEANS = 4;

        final int sort;
        final long[] elements;

        Row(int sort, int n) {
            this.sort = sort;
            this.elements = new long[n < 0 ? 0 : n];
        }

        int told() {
            return sort;
        }

        boolean has(int i) {
            return i >= 0 && i < elements.length;
        }

        boolean hasPart(int from, int n) {
            return from >= 0 && n >= 0 && n <= elements.length && from <= elements.length - n;
        }

        void change(int i, long v) {
            switch (sort) {
                case BYTES: elements[i] = (byte) v; break;
                case SHORTS: elements[i] = (short) v; break;
                case INTS: elements[i] = (int) v; break;
                case BOOLEANS: elements[i] = v != 0 ? 1 : 0; break;
                default: elements[i] = v; break;
            }
        }

        /** Element i as part of a PLACING. */
        int sizeAt(int i) {
            long size = elements[i];
            return size >= 0 && size < Wall.SIZES ? (int) size : NONE;
        }
    }

    /** A RULE; of what is under another KIND the class is below that KIND's class. */
    private abstract static class Rule extends Thing {
        static final int RULE = 0;
        static final int LEAST = 1;
        static final int KEEP = 2;
        static final int SOME = 3;
        static final int GREAT = 4;
        static final int EVEN = 5;
        static final int WISE = 6;

        final int a;

        Rule(int a) {
            this.a = a;
        }

        abstract int kind();

        /** The SIZE a SORT gets in a STATE; ahead tells BEST of hoursThatCount() HOURS by STATES. */
        abstract int picks(Wall w, int sort, int state, long[] ahead);

        int hoursThatCount() {
            return 0;
        }

        int told() {
            return 10 + kind();
        }

        boolean isOf(int kind) {
            switch (kind) {
                case RULE: return true;
                case LEAST: return this instanceof Least;
                case KEEP: return this instanceof Keep;
                case SOME: return this instanceof Some;
                case GREAT: return this instanceof Great;
                case EVEN: return this instanceof Even;
                case WISE: return this instanceof Wise;
                default: return false;
            }
        }
    }

    private static class Least extends Rule {
        Least(int a) {
            super(a);
        }

        int kind() {
            return LEAST;
        }

        int picks(Wall w, int sort, int state, long[] ahead) {
            for (int size = w.sizeOf[sort]; size < Wall.SIZES; size++) {
                if (Wall.freeIn(state, size) > 0) {
                    return size;
                }
            }
            return NONE;
        }
    }

    private static final class Keep extends Least {
        Keep(int a) {
            super(a);
        }

        int kind() {
            return KEEP;
        }

        int picks(Wall w, int sort, int state, long[] ahead) {
            int own = w.sizeOf[sort];
            for (int size = own; size < Wall.SIZES; size++) {
                if (Wall.freeIn(state, size) > (size == own ? 0 : a)) {
                    return size;
                }
            }
            return NONE;
        }
    }

    private static final class Some extends Least {
        Some(int a) {
            super(a);
        }

        int kind() {
            return SOME;
        }

        int picks(Wall w, int sort, int state, long[] ahead) {
            return w.worthOf[sort] < a ? NONE : super.picks(w, sort, state, ahead);
        }
    }

    private static class Great extends Rule {
        Great(int a) {
            super(a);
        }

        int kind() {
            return GREAT;
        }

        int picks(Wall w, int sort, int state, long[] ahead) {
            for (int size = Wall.SIZES - 1; size >= w.sizeOf[sort]; size--) {
                if (Wall.freeIn(state, size) > 0) {
                    return size;
                }
            }
            return NONE;
        }
    }

    private static final class Even extends Great {
        Even(int a) {
            super(a);
        }

        int kind() {
            return EVEN;
        }

        int picks(Wall w, int sort, int state, long[] ahead) {
            int picked = NONE;
            int most = 0;
            for (int size = Wall.SIZES - 1; size >= w.sizeOf[sort]; size--) {
                int free = Wall.freeIn(state, size);
                if (free > most) {
                    picked = size;
                    most = free;
                }
            }
            return picked;
        }
    }

    private static final class Wise extends Rule {
        static final int MOST_THAT_COUNT = 20;

        Wise(int a) {
            super(a);
        }

        int kind() {
            return WISE;
        }

        int hoursThatCount() {
            return Math.min(a, MOST_THAT_COUNT);
        }

        int picks(Wall w, int sort, int state, long[] ahead) {
            return w.bestSize(sort, state, ahead, 0);
        }
    }

    /** All that image() keeps: boxes, SORTS, the wall near, SEED and what came so far in truth. */
    private static final class Wall {
        static final int SIZES = 3;
        static final int MOST_BOXES = 4;
        static final int STATES = 125;
        static final int MOST_SORTS = 6;
        static final int DAY_NUMBERS = 6;
        static final int[] STEP = {1, 5, 25};
        static final long MILLION = 1000000L;

        final int[] boxes = {2, 2, 2};
        final int[] full = new int[SIZES];
        final int[] goes = {3, 3, 3};
        final int[] sizeOf = new int[MOST_SORTS];
        final int[] comesOf = new int[MOST_SORTS];
        final int[] worthOf = new int[MOST_SORTS];
        final int[] backOf = new int[MOST_SORTS];
        final int[] days = new int[DAY_NUMBERS];
        int count;
        int near;
        int way = 5;
        int seed = 1;

        void becomes(Wall other) {
            System.arraycopy(other.boxes, 0, boxes, 0, SIZES);
            System.arraycopy(other.full, 0, full, 0, SIZES);
            System.arraycopy(other.goes, 0, goes, 0, SIZES);
            System.arraycopy(other.sizeOf, 0, sizeOf, 0, MOST_SORTS);
            System.arraycopy(other.comesOf, 0, comesOf, 0, MOST_SORTS);
            System.arraycopy(other.worthOf, 0, worthOf, 0, MOST_SORTS);
            System.arraycopy(other.backOf, 0, backOf, 0, MOST_SORTS);
            System.arraycopy(other.days, 0, days, 0, DAY_NUMBERS);
            count = other.count;
            near = other.near;
            way = other.way;
            seed = other.seed;
        }

        static int freeIn(int state, int size) {
            return state / STEP[size] % 5;
        }

        /** How much WALL as many BOXES as a STATE tells take. */
        static int room(int state) {
            return freeIn(state, 0) + 2 * freeIn(state, 1) + 4 * freeIn(state, 2);
        }

        int freeOf(int size) {
            return boxes[size] - full[size];
        }

        int stateNow() {
            return freeOf(0) + 5 * freeOf(1) + 25 * freeOf(2);
        }

        boolean isState(int state) {
            return state >= 0 && state < STATES && freeIn(state, 0) <= boxes[0]
                && freeIn(state, 1) <= boxes[1] && freeIn(state, 2) <= boxes[2];
        }

        void empty() {
            for (int size = 0; size < SIZES; size++) {
                full[size] = 0;
            }
        }

        void haveBoxes(int state) {
            for (int size = 0; size < SIZES; size++) {
                boxes[size] = freeIn(state, size);
            }
        }

        boolean isSort(long sort) {
            return sort >= 0 && sort < count;
        }

        int comesTogether() {
            int together = 0;
            for (int i = 0; i < count; i++) {
                together += comesOf[i];
            }
            return together;
        }

        /** 0 if there can be such a SORT, else the refusal that is due. */
        int troubleWithSort(long size, long comes, long worth, long back) {
            if (size < 0 || size >= SIZES || comes < 0 || comes > 100
                || worth < 1 || worth > 99 || back < 0 || back > 99) {
                return BAD;
            }
            if (comesTogether() + comes > 100) {
                return STUCK;
            }
            return count >= MOST_SORTS ? FULL : 0;
        }

        void addSort(int size, int comes, int worth, int back) {
            if (count < MOST_SORTS) {
                sizeOf[count] = size;
                comesOf[count] = comes;
                worthOf[count] = worth;
                backOf[count] = back;
                count++;
            }
        }

        long gainOf(int sort) {
            return MILLION * worthOf[sort];
        }

        long lostOf(int sort) {
            return 100000L * (near * (worthOf[sort] - way) - (10 - near) * backOf[sort]);
        }

        /** What it brings in all if a SORT gets a SIZE, or NONE, in a STATE; ahead has the STATES from a place on. */
        long outcome(int sort, int size, int state, long[] ahead, int from) {
            return size == NONE ? lostOf(sort) + ahead[from + state]
                : gainOf(sort) + ahead[from + state - STEP[size]];
        }

        /** The SIZE of the greatest outcome, of several none, then the least. */
        int bestSize(int sort, int state, long[] ahead, int from) {
            int picked = NONE;
            long greatest = outcome(sort, NONE, state, ahead, from);
            for (int size = sizeOf[sort]; size < SIZES; size++) {
                if (freeIn(state, size) > 0) {
                    long v = outcome(sort, size, state, ahead, from);
                    if (v > greatest) {
                        picked = size;
                        greatest = v;
                    }
                }
            }
            return picked;
        }

        int draw(int below) {
            seed = seed * 1103515245 + 12345;
            return below < 1 ? 0 : (seed >>> 16) % below;
        }

        /** One HOUR by draws, by a plan that hours made; what it brought. */
        int hourInTruth(int[] plan) {
            days[0]++;
            for (int size = 0; size < SIZES; size++) {
                if (full[size] > 0 && draw(10) < goes[size]) {
                    full[size]--;
                    days[4]++;
                }
            }
            int sort = sortDrawn();
            int brought = sort == NONE ? 0 : broughtBy(sort, plan[sort * STATES + stateNow()]);
            days[5] += brought;
            return brought;
        }

        int sortDrawn() {
            int drawn = draw(100);
            for (int i = 0; i < count; i++) {
                if (drawn < comesOf[i]) {
                    return i;
                }
                drawn -= comesOf[i];
            }
            return NONE;
        }

        int broughtBy(int sort, int size) {
            if (size != NONE) {
                full[size]++;
                days[1]++;
                return worthOf[sort];
            }
            if (draw(10) < near) {
                days[2]++;
                return worthOf[sort] - way;
            }
            days[3]++;
            return -backOf[sort];
        }
    }

    /** VALUE and BEST of all STATES of a wall at once, HOUR after HOUR. */
    private static final class Hours {
        // So low that no box that isn't there can be the best one.
        static final long NEVER = -1000000000000000L;
        static final long WAYS = 100000L;

        final long[] values = new long[Wall.STATES];
        final long[] tails = new long[(MOST_IN_CART + 1) * Wall.STATES];
        final int[] plan = new int[Wall.MOST_SORTS * Wall.STATES];
        private final long[] sums = new long[Wall.STATES];
        private final int[] states = new int[Wall.STATES];
        private int stateCount;
        private final long[] lostBy = new long[Wall.MOST_SORTS];
        private final long[] gainBy = new long[Wall.MOST_SORTS];
        private final long[] atMost = new long[Wall.SIZES];

        private void begin(Wall w) {
            stateCount = 0;
            for (int state = 0; state < Wall.STATES; state++) {
                if (w.isState(state)) {
                    states[stateCount] = state;
                    stateCount++;
                    values[state] = 0;
                }
            }
            for (int i = 0; i < w.count; i++) {
                lostBy[i] = w.lostOf(i);
                gainBy[i] = w.gainOf(i);
            }
        }

        /** values become BEST of n HOURS. */
        void makeBest(Wall w, int n) {
            begin(w);
            for (int i = 0; i < n; i++) {
                sumBest(w);
                fetchAll(w);
                cutSums();
            }
        }

        /** BEST of one HOUR more than values has, in one STATE; values stay. */
        long bestOfOneMore(Wall w, int state) {
            sumBest(w);
            fetchAll(w);
            return sums[state] / WAYS;
        }

        /** plan becomes what a RULE says for each SORT in each STATE. */
        void makePlan(Wall w, Rule r) {
            makeBest(w, r.hoursThatCount());
            for (int sort = 0; sort < w.count; sort++) {
                for (int i = 0; i < stateCount; i++) {
                    int state = states[i];
                    plan[sort * Wall.STATES + state] = r.picks(w, sort, state, values);
                }
            }
        }

        /** values become VALUE of n HOURS by plan. */
        void makeValue(Wall w, int n) {
            begin(w);
            for (int i = 0; i < n; i++) {
                sumPlanned(w);
                fetchAll(w);
                cutSums();
            }
        }

        private void sumBest(Wall w) {
            long rest = 100 - w.comesTogether();
            int count = w.count;
            for (int i = 0; i < stateCount; i++) {
                int state = states[i];
                long stays = values[state];
                lookAtBoxes(state);
                long sum = rest * stays;
                for (int sort = 0; sort < count; sort++) {
                    long none = lostBy[sort] + stays;
                    long boxed = gainBy[sort] + atMost[w.sizeOf[sort]];
                    sum += w.comesOf[sort] * (boxed > none ? boxed : none);
                }
                sums[state] = sum;
            }
        }

        /** atMost becomes, by SIZES, the most that is left with one box of it or a greater one taken. */
        private void lookAtBoxes(int state) {
            long most = state >= 25 ? values[state - 25] : NEVER;
            atMost[2] = most;
            int others = state % 25;
            if (others >= 5) {
                most = Math.max(most, values[state - 5]);
            }
            atMost[1] = most;
            if (others % 5 > 0) {
                most = Math.max(most, values[state - 1]);
            }
            atMost[0] = most;
        }

        private void sumPlanned(Wall w) {
            long rest = 100 - w.comesTogether();
            for (int i = 0; i < stateCount; i++) {
                int state = states[i];
                long sum = rest * values[state];
                for (int sort = 0; sort < w.count; sort++) {
                    int size = plan[sort * Wall.STATES + state];
                    long boxed = size == NONE ? lostBy[sort] + values[state]
                        : gainBy[sort] + values[state - Wall.STEP[size]];
                    sum += w.comesOf[sort] * boxed;
                }
                sums[state] = sum;
            }
        }

        private void fetchAll(Wall w) {
            for (int size = 0; size < Wall.SIZES; size++) {
                fetchOne(w, size);
            }
        }

        /** STATES rise, so what a fetched box leads to has not been overwritten yet. */
        private void fetchOne(Wall w, int size) {
            int step = Wall.STEP[size];
            int boxes = w.boxes[size];
            int goes = w.goes[size];
            for (int i = 0; i < stateCount; i++) {
                int state = states[i];
                if (Wall.freeIn(state, size) < boxes) {
                    sums[state] = goes * sums[state + step] + (10 - goes) * sums[state];
                } else {
                    sums[state] = 10 * sums[state];
                }
            }
        }

        private void cutSums() {
            for (int i = 0; i < stateCount; i++) {
                values[states[i]] = sums[states[i]] / WAYS;
            }
        }

        /** tails[i * STATES + state]: the most that a CARTFUL brings from its i-th on, BEST in values behind it. */
        void makeTails(Wall w, long[] cartful, int k) {
            System.arraycopy(values, 0, tails, k * Wall.STATES, Wall.STATES);
            for (int i = k - 1; i >= 0; i--) {
                int sort = (int) cartful[i];
                int behind = (i + 1) * Wall.STATES;
                for (int j = 0; j < stateCount; j++) {
                    int state = states[j];
                    int size = w.bestSize(sort, state, tails, behind);
                    tails[i * Wall.STATES + state] = w.outcome(sort, size, state, tails, behind);
                }
            }
        }

        /** The SIZE that the i-th of a CARTFUL gets, by tails. */
        int sizePlaced(Wall w, long[] cartful, int i, int state) {
            int size = NONE;
            for (int j = 0; j <= i; j++) {
                size = w.bestSize((int) cartful[j], state, tails, (j + 1) * Wall.STATES);
                if (size != NONE) {
                    state -= Wall.STEP[size];
                }
            }
            return size;
        }

        int leastState() {
            int least = 0;
            for (int i = 0; i < stateCount; i++) {
                if (values[states[i]] < values[least]) {
                    least = states[i];
                }
            }
            return least;
        }
    }

    /** THE TAPE, and the reading of a WALL from it. */
    private static final class Tape {
        static final int MOST = 200;
        static final int END = 0;
        static final int WORD = 1;
        static final int NUMBER = 2;
        static final int SIGN = 3;
        static final int STRANGE = 4;
        static final int FAULTS = -20;

        int length;
        private final byte[] bytes = new byte[MOST];
        private int token;
        private int at;
        private int end;
        private int fault;

        void add(int v, int n) {
            for (int i = n - 1; i >= 0 && length < MOST; i--) {
                bytes[length] = (byte) (v >> 8 * i);
                length++;
            }
        }

        /** How many STATEMENTS were told, or FAULTS less the FAULT: then w is of no use. */
        int readInto(Wall w) {
            fault = NONE;
            end = 0;
            next();
            for (int told = 1; told <= MOST; told++) {
                readStatement(w);
                if (fault == NONE && token == END) {
                    return told;
                }
                if (token != SIGN) {
                    complain();
                }
                if (fault != NONE) {
                    return FAULTS - fault;
                }
                next();
            }
            return FAULTS - length;
        }

        private void readStatement(Wall w) {
            if (isWord("sort")) {
                readSort(w);
            } else if (isWord("box")) {
                next();
                int size = number(0, Wall.SIZES - 1);
                int boxes = number(size == NONE ? 0 : w.full[size], Wall.MOST_BOXES);
                if (fault == NONE) {
                    w.boxes[size] = boxes;
                }
            } else if (isWord("goes")) {
                next();
                int size = number(0, Wall.SIZES - 1);
                int goes = number(0, 10);
                if (fault == NONE) {
                    w.goes[size] = goes;
                }
            } else if (isWord("near")) {
                next();
                w.near = number(0, 10);
            } else if (isWord("way")) {
                next();
                w.way = number(0, 99);
            } else {
                complain();
            }
        }

        private void readSort(Wall w) {
            if (w.count >= Wall.MOST_SORTS) {
                complain();
                return;
            }
            next();
            int size = number(0, Wall.SIZES - 1);
            if (isWord("comes")) {
                next();
            } else {
                complain();
            }
            int comes = number(0, 100 - w.comesTogether());
            int worth = perhaps("worth", 1, 10);
            int back = perhaps("back", 0, 5);
            if (fault == NONE) {
                w.addSort(size, comes, worth, back);
            }
        }

        /** Only the first TOKEN that can't stand is the FAULT; behind it nothing is read any more. */
        private void complain() {
            if (fault == NONE) {
                fault = at;
            }
        }

        private void next() {
            if (fault != NONE) {
                return;
            }
            at = end;
            while (at < length && bytes[at] == ' ') {
                at++;
            }
            token = at < length ? tokenOf(bytes[at]) : END;
            end = token == END ? at : at + 1;
            while ((token == WORD || token == NUMBER) && end < length && tokenOf(bytes[end]) == token) {
                end++;
            }
        }

        private static int tokenOf(byte b) {
            if (b >= 'a' && b <= 'z') {
                return WORD;
            }
            if (b >= '0' && b <= '9') {
                return NUMBER;
            }
            return b == ';' ? SIGN : STRANGE;
        }

        private boolean isWord(String word) {
            if (token != WORD || end - at != word.length()) {
                return false;
            }
            for (int i = 0; i < word.length(); i++) {
                if (bytes[at + i] != word.charAt(i)) {
                    return false;
                }
            }
            return true;
        }

        /** The NUMBER here, from low to high, and on to the next TOKEN; NONE if there is a FAULT. */
        private int number(int low, int high) {
            int v = NONE;
            if (token == NUMBER && end - at <= 3) {
                v = 0;
                for (int i = at; i < end; i++) {
                    v = 10 * v + bytes[i] - '0';
                }
            }
            if (v < low || v > high) {
                complain();
            }
            next();
            return fault == NONE ? v : NONE;
        }

        private int perhaps(String word, int low, int untold) {
            if (!isWord(word)) {
                return untold;
            }
            next();
            return number(low, 99);
        }
    }
}
