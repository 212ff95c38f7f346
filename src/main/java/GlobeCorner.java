import java.util.Arrays;

/** Twelve places on a ball, the children who see to them, and all that can be asked of both. */
public final class GlobeCorner {
    public static final int NONE = -1, BAD = -2, STATE = -3, FULL = -4;
    public static final long NO = Long.MIN_VALUE;

    /** On no place, not by then, no such row: the document's -5. */
    private static final int NEVER = -5;
    /** The base of a school's refusal: -10 less the fault. */
    private static final int FAULTY = -10;
    private static final int NOTHING = -11, CAST = -12, NO_PLACE = -13, SIZE = -14;
    /** Stands for NONE where an answer may be below 0. */
    private static final int NONE_BELOW = -10001;

    private static final int PLACES = 12, CHILDREN = 6, PARTS = 4, SCHOOLS = 6, TAPES = 6;
    private static final int MOST_NEED = 99, FIRST_NEED = 20, MOST_CARE = 99, LAST_HOUR = 9999;
    private static final int TEXT_BYTES = 100, CLAUSES = 10, NESTED = 4, TAPE_ITEMS = 60;
    private static final int SEEN_ROWS = 5, PLAN_ROWS = 10, BOOK_ROWS = 8;

    private static final int CHILD = 0, GOOD = 1, BAD_ONE = 2, DREAMY = 3, MONITOR = 4, SULKY = 5, TOLD = 6;
    private static final int[] KIND_ABOVE = {-1, CHILD, CHILD, CHILD, GOOD, BAD_ONE, DREAMY};
    private static final int KINDS = 7;

    private final Corner now = new Corner();
    private final Corner kept = new Corner();
    private boolean anyKept;
    /** Where what is only asked goes on, so that nothing of now changes. */
    private final Globe trial = new Globe();
    private final School[] schools = new School[SCHOOLS];
    private int schoolsRead;
    private final Reader reader = new Reader();
    private final Posts posts = new Posts();
    private final Acts acts = new Acts();
    private final Tape[] tapes = new Tape[TAPES];

    public GlobeCorner() {
        for (int i = 0; i < SCHOOLS; i++) schools[i] = new School();
        for (int i = 0; i < TAPES; i++) tapes[i] = new Tape();
    }

    // ---- children, places, schools

    public int child(int kind, int v) {
        if (!within(kind, 0, KINDS - 1)) return NONE;
        if (!within(v, 0, 9)) return BAD;
        return now.globe.join(kind, v);
    }

    public int of(int child, int what) {
        if (!isChild(child)) return NONE_BELOW;
        Globe globe = now.globe;
        switch (what) {
            case 0: return globe.kind[child];
            case 1: return globe.v[child];
            case 2: return globe.finger[child];
            case 3: return globe.stood[child];
            default:
                if (!isPlaceBehindTen(what)) return NONE_BELOW;
                return globe.careNow(child, what - 10, globe.isAnotherOn(child, what - 10));
        }
    }

    public int spot(int spot, int what) {
        if (!isPlace(spot)) return NONE;
        switch (what) {
            case 0: return now.globe.need[spot];
            case 1: return now.globe.hoursUntilWell(spot);
            case 2: return fittingNeeds(spot, false);
            case 3: return fittingNeeds(spot, true);
            default: return NONE;
        }
    }

    public int point(int child, int spot) {
        if (!isChild(child)) return NONE;
        if (spot != -1 && !isPlace(spot)) return NONE;
        int was = now.globe.finger[child];
        now.globe.finger[child] = spot == -1 ? NEVER : spot;
        return was;
    }

    public int need(int spot, int n) {
        if (!isPlace(spot)) return NONE;
        if (!within(n, 0, MOST_NEED)) return BAD;
        int was = now.globe.need[spot];
        now.globe.need[spot] = n;
        return was;
    }

    public int spin(int s) {
        if (!within(s, 0, PLACES - 1)) return BAD;
        now.globe.carryFingers(s);
        return now.globe.fingersOnPlaces();
    }

    public int bell() {
        int were = now.globe.fingersOnPlaces();
        Arrays.fill(now.globe.finger, NEVER);
        return were;
    }

    public int row(int child, int part, int n) {
        if (!isChild(child) || !within(part, 0, PARTS - 1)) return NONE;
        if (!within(n, 0, 9)) return BAD;
        if (now.globe.kind[child] != TOLD) return STATE;
        int was = now.globe.row[child * PARTS + part];
        now.globe.row[child * PARTS + part] = n;
        return was;
    }

    public int feed(int sign) {
        if (!within(sign, 0, 127)) return BAD;
        return reader.take(sign);
    }

    public int school() {
        if (schoolsRead >= SCHOOLS) return FULL;
        // The place of the next school is free until it is counted, so a faulty text may spoil it.
        School next = schools[schoolsRead];
        int fault = reader.readInto(next);
        if (fault >= 0) return FAULTY - fault;
        now.globe.school = next;
        return schoolsRead++;
    }

    public int told(int what) {
        switch (what) {
            case 0: return now.globe.hour;
            case 1: return now.globe.grow();
            case 2: return now.globe.allNeedBehind(0);
            case 3: return now.globe.wellBehind(0);
            case 4: return posts.most(now.globe);
            default:
                if (what < 10 || !isChild(what - 10)) return NONE;
                return posts.placeOf(now.globe, what - 10);
        }
    }

    // ---- hours

    public int pass(int n) {
        if (!within(n, 0, 60)) return BAD;
        if (now.globe.hour + n > LAST_HOUR) return STATE;
        for (int i = 0; i < n; i++) now.globe.goHour();
        return now.globe.hour;
    }

    public int on(int n, int what) {
        if (what != 0 && what != 1 && !isPlaceBehindTen(what)) return NONE;
        if (!within(n, 0, 60)) return BAD;
        if (what == 0) return now.globe.allNeedBehind(n);
        if (what == 1) return now.globe.wellBehind(n);
        return now.globe.needBehind(what - 10, n);
    }

    public int crowd(int spot, int n) {
        if (!isPlace(spot)) return NONE;
        if (!within(n, 1, 12)) return BAD;
        trial.copyFrom(now.globe);
        int best = NEVER;
        int sets = 1 << now.globe.children;
        for (int set = 0; set < sets; set++) {
            boolean fewer = best == NEVER || Integer.bitCount(set) < Integer.bitCount(best);
            if (!fewer) continue;
            trial.gather(set, spot);
            if (trial.needBehind(spot, n) == 0) best = set;
        }
        return best;
    }

    public int turn(int n) {
        if (!within(n, 1, 12)) return BAD;
        trial.copyFrom(now.globe);
        int best = 0;
        int least = trial.allNeedBehind(n);
        for (int s = 1; s < PLACES; s++) {
            trial.carryFingers(1);
            int all = trial.allNeedBehind(n);
            if (all < least) {
                least = all;
                best = s;
            }
        }
        return best;
    }

    // ---- seen, odds

    public int see(int spot, int n, int need) {
        if (spot == -1) return now.seen.wipe();
        if (!isPlace(spot)) return NONE;
        if (!within(n, 0, 12) || !within(need, 0, MOST_NEED)) return BAD;
        return now.seen.add(spot, n, need);
    }

    public int can(int child, int what) {
        if (!isChild(child) || !within(what, 0, 1)) return NONE;
        trial.copyFrom(now.globe);
        int many = 0;
        int least = NEVER;
        for (int v = 9; v >= 0; v--) {
            trial.v[child] = v;
            if (!trial.isAllSoBut(NEVER, now.seen)) continue;
            many++;
            least = v;
        }
        return what == 0 ? many : least;
    }

    public long odds(int child, int spot, int n, int part) {
        if (!isChild(child) || !isPlace(spot)) return NO;
        if (!within(n, 0, 20) || !within(part, 0, 1)) return NO;
        trial.copyFrom(now.globe);
        int well = 0;
        for (int p = 0; p < PLACES; p++) {
            trial.finger[child] = p;
            if (trial.needBehind(spot, n) == 0) well++;
        }
        return partOfTwelfths(well, part);
    }

    public long mean(int n, int part) {
        if (!within(n, 0, 60) || !within(part, 0, 1)) return NO;
        return partOfTwelfths(now.globe.allNeedBehind(n), part);
    }

    // ---- plans, books

    public int plan(int what, int n) {
        if (what == -1) return now.plan.wipe();
        switch (what) {
            case Globe.GO_HOUR: return now.plan.add(what, 0, 0);
            case Globe.LIFT_FINGER: return isChild(n) ? now.plan.add(what, n, 0) : NONE;
            case Globe.SPIN_ALL: return within(n, 0, PLACES - 1) ? now.plan.add(what, n, 0) : BAD;
            case Globe.MAKE_WELL: return isPlace(n) ? now.plan.add(what, n, 0) : NONE;
            default: return NONE;
        }
    }

    public int ends(int what) {
        if (!within(what, 0, 1)) return NONE;
        trial.copyFrom(now.globe);
        for (int i = 0; i < now.plan.size; i++) trial.goStep(now.plan.first[i], now.plan.second[i]);
        return what == 0 ? trial.allNeedBehind(0) : trial.allStood();
    }

    public int book(int spot, int need) {
        if (spot == -1) return now.book.wipe();
        if (!isPlace(spot)) return NONE;
        if (!within(need, 0, MOST_NEED)) return BAD;
        return now.book.add(spot, need, 0);
    }

    public int looked() {
        for (int i = 0; i < now.book.size; i++) {
            if (now.globe.need[now.book.first[i]] != now.book.second[i]) return i;
        }
        return NEVER;
    }

    // ---- judging, the image, acts, tapes

    public int judge(int tape, int i) {
        if (!isTape(tape)) return NONE;
        Tape row = tapes[tape];
        if (row.sort != Tape.EMPTY && row.sort != Tape.BYTES) return CAST;
        for (int p = 0; p < PLACES; p++) {
            if (i < 0 || i >= row.length - p) return 100 + p;
            if (row.items[i + p] != now.globe.need[p]) return p;
        }
        return NEVER;
    }

    public int image() {
        kept.copyFrom(now);
        anyKept = true;
        return now.globe.children;
    }

    public int undo() {
        if (!anyKept) return STATE;
        now.copyFrom(kept);
        return now.globe.children;
    }

    public int act(int child, int act, int x) {
        acts.forget();
        if (!isChild(child) || !within(act, 0, Acts.EACH - 1)) return 0;
        return acts.begin(now.globe, child, act, x);
    }

    public int trace(int i) {
        return within(i, 0, acts.keptBodies() - 1) ? acts.bodies[i] : NONE;
    }

    public int taken(int child, int k) {
        if (!within(k, 0, KINDS - 1)) return BAD;
        if (!isChild(child)) return NOTHING;
        int kind = now.globe.kind[child];
        for (int i = 0, above = kind; i < KINDS && above >= 0; i++, above = KIND_ABOVE[above]) {
            if (above == k) return kind;
        }
        return CAST;
    }

    public int count(int what) {
        switch (what) {
            case 0: return now.globe.children;
            case 1: return schoolsRead;
            case 2: return now.seen.size;
            case 3: return now.plan.size;
            case 4: return now.book.size;
            case 5: return reader.length;
            case 6: return acts.ran;
            default: return BAD;
        }
    }

    public int tape(int tape, int sort, int n) {
        if (!isTape(tape)) return NONE;
        if (!within(sort, Tape.EMPTY, Tape.BOOLEANS)) return BAD;
        if (sort == Tape.EMPTY) return tapes[tape].become(sort, 0);
        if (n > TAPE_ITEMS) return BAD;
        if (n < 0) return SIZE;
        return tapes[tape].become(sort, n);
    }

    public int item(int tape, int i, long v) {
        if (!isTape(tape)) return NONE;
        Tape row = tapes[tape];
        if (row.sort == Tape.EMPTY) return NOTHING;
        if (!within(i, 0, row.length - 1)) return NO_PLACE;
        row.items[i] = row.narrowed(v);
        return 1;
    }

    public long read(int tape, int i) {
        if (!isTape(tape)) return NO;
        // A tape that holds nothing has length 0, so it has no such place either.
        return within(i, 0, tapes[tape].length - 1) ? tapes[tape].items[i] : NO;
    }

    public int shift(int tape, int i, int other, int j, int n) {
        if (!isTape(tape) || !isTape(other)) return NONE;
        Tape from = tapes[tape];
        Tape to = tapes[other];
        if (from.sort == Tape.EMPTY || to.sort == Tape.EMPTY) return NOTHING;
        if (from.sort != to.sort) return CAST;
        if (!from.hasRun(i, n) || !to.hasRun(j, n)) return NO_PLACE;
        System.arraycopy(from.items, i, to.items, j, n);
        return n;
    }

    // ---- what the calls share

    private static boolean within(int n, int low, int high) {
        return n >= low && n <= high;
    }

    private static boolean isPlace(int spot) {
        return within(spot, 0, PLACES - 1);
    }

    private static boolean isPlaceBehindTen(int what) {
        return within(what, 10, 10 + PLACES - 1);
    }

    private static boolean isTape(int tape) {
        return within(tape, 0, TAPES - 1);
    }

    private boolean isChild(int child) {
        return within(child, 0, now.globe.children - 1);
    }

    private int fittingNeeds(int spot, boolean wantLeast) {
        trial.copyFrom(now.globe);
        int many = 0;
        int least = NEVER;
        // What a place needs never bears on another, so the others are looked at once.
        boolean othersSo = trial.isAllSoBut(spot, now.seen);
        for (int n = MOST_NEED; othersSo && n >= 0; n--) {
            trial.need[spot] = n;
            if (!trial.isSo(spot, now.seen)) continue;
            many++;
            least = n;
        }
        return wantLeast ? least : many;
    }

    /** The part of above / 12 in lowest terms: 0 above, 1 below the line. */
    private static long partOfTwelfths(int above, int part) {
        int whole = part == 0 ? above : PLACES;
        for (int g = PLACES; g > 1; g--) {
            if (PLACES % g == 0 && above % g == 0) return whole / g;
        }
        return whole;
    }

    /** All that the image holds. */
    private static final class Corner {
        final Globe globe = new Globe();
        /** Rows of place, hours, need. */
        final Rows seen = new Rows(SEEN_ROWS);
        /** Rows of what goes and its number. */
        final Rows plan = new Rows(PLAN_ROWS);
        /** Rows of place, need. */
        final Rows book = new Rows(BOOK_ROWS);

        void copyFrom(Corner other) {
            globe.copyFrom(other.globe);
            seen.copyFrom(other.seen);
            plan.copyFrom(other.plan);
            book.copyFrom(other.book);
        }
    }

    /** Rows told by hand, of up to three numbers each. */
    private static final class Rows {
        final int[] first;
        final int[] second;
        final int[] third;
        int size;

        Rows(int limit) {
            first = new int[limit];
            second = new int[limit];
            third = new int[limit];
        }

        int add(int a, int b, int c) {
            if (size >= first.length) return FULL;
            first[size] = a;
            second[size] = b;
            third[size] = c;
            size++;
            return size;
        }

        int wipe() {
            size = 0;
            return 0;
        }

        void copyFrom(Rows other) {
            size = other.size;
            System.arraycopy(other.first, 0, first, 0, first.length);
            System.arraycopy(other.second, 0, second, 0, second.length);
            System.arraycopy(other.third, 0, third, 0, third.length);
        }
    }

    /**
     * The places and the children. While fingers stay, what a place needs bears on no other place,
     * and the hour and how long one has stood just go on: so a place can be followed by itself.
     */
    private static final class Globe {
        static final int GO_HOUR = 0, LIFT_FINGER = 1, SPIN_ALL = 2, MAKE_WELL = 3;

        int hour;
        int children;
        /** The one that holds; null without one. */
        School school;
        final int[] need = new int[PLACES];
        final int[] kind = new int[CHILDREN];
        final int[] v = new int[CHILDREN];
        final int[] finger = new int[CHILDREN];
        final int[] stood = new int[CHILDREN];
        final int[] row = new int[CHILDREN * PARTS];
        /** What the letters of a test stand for, used again for each sum. */
        private final int[] facts = new int[School.LETTERS];

        Globe() {
            Arrays.fill(need, FIRST_NEED);
            Arrays.fill(finger, NEVER);
        }

        void copyFrom(Globe other) {
            hour = other.hour;
            children = other.children;
            school = other.school;
            System.arraycopy(other.need, 0, need, 0, PLACES);
            System.arraycopy(other.kind, 0, kind, 0, CHILDREN);
            System.arraycopy(other.v, 0, v, 0, CHILDREN);
            System.arraycopy(other.finger, 0, finger, 0, CHILDREN);
            System.arraycopy(other.stood, 0, stood, 0, CHILDREN);
            System.arraycopy(other.row, 0, row, 0, CHILDREN * PARTS);
        }

        int join(int newKind, int newV) {
            if (children >= CHILDREN) return FULL;
            kind[children] = newKind;
            v[children] = newV;
            finger[children] = NEVER;
            stood[children] = 0;
            for (int part = 0; part < PARTS; part++) row[children * PARTS + part] = 0;
            children++;
            return children - 1;
        }

        int grow() {
            return school == null ? School.GROW_WITHOUT : school.grow;
        }

        // ---- fingers

        void carryFingers(int s) {
            for (int c = 0; c < children; c++) {
                if (finger[c] >= 0) finger[c] = (finger[c] + s) % PLACES;
            }
        }

        /** The children of the set have their fingers on the place, all others theirs on none. */
        void gather(int set, int place) {
            for (int c = 0; c < children; c++) finger[c] = (set >> c & 1) == 1 ? place : NEVER;
        }

        int fingersOnPlaces() {
            int many = 0;
            for (int c = 0; c < children; c++) {
                if (finger[c] >= 0) many++;
            }
            return many;
        }

        private int fingersOn(int place) {
            int many = 0;
            for (int c = 0; c < children; c++) {
                if (finger[c] == place) many++;
            }
            return many;
        }

        boolean isAnotherOn(int child, int place) {
            for (int c = 0; c < children; c++) {
                if (c != child && finger[c] == place) return true;
            }
            return false;
        }

        // ---- care

        int careNow(int child, int place, boolean another) {
            return care(child, place, need[place], 0, another);
        }

        /** The care as it will be some hours later, if the child has a finger on a place till then. */
        private int care(int child, int place, int needs, int later, boolean another) {
            int sum = school == null ? School.SUM_WITHOUT : school.sum(factsOf(child, place, needs, later));
            int dreamt = (hour + later) % 4 == 3 ? 0 : sum;
            switch (kind[child]) {
                case GOOD: return sum + v[child];
                case BAD_ONE: return sum / 2;
                case DREAMY: return dreamt;
                case MONITOR: return (sum + v[child]) * (another ? 2 : 1);
                case SULKY: return sum / 2 - Math.min(9, (stood[child] + later) / 5);
                case TOLD: return dreamt + row[child * PARTS + place % PARTS];
                default: return sum;
            }
        }

        private int[] factsOf(int child, int place, int needs, int later) {
            facts[0] = child;
            facts[1] = kind[child];
            facts[2] = v[child];
            facts[3] = place;
            facts[4] = needs / 10;
            facts[5] = (hour + later) % 10;
            return facts;
        }

        // ---- hours

        void goHour() {
            for (int p = 0; p < PLACES; p++) need[p] = needNext(p, need[p], 0);
            // No bound here: what is asked goes beyond 9999, and what passes is kept below by its hour.
            for (int c = 0; c < children; c++) {
                if (finger[c] >= 0) stood[c]++;
            }
            hour++;
        }

        /** What a place that needs so much some hours later needs one hour after that. */
        private int needNext(int place, int needs, int later) {
            int next = needs + grow();
            boolean several = fingersOn(place) > 1;
            for (int c = 0; c < children; c++) {
                if (finger[c] == place) next -= Math.max(0, care(c, place, needs, later, several));
            }
            return Math.max(0, Math.min(MOST_NEED, next));
        }

        int needBehind(int place, int hours) {
            int needs = need[place];
            for (int later = 0; later < hours; later++) needs = needNext(place, needs, later);
            return needs;
        }

        int allNeedBehind(int hours) {
            int all = 0;
            for (int p = 0; p < PLACES; p++) all += needBehind(p, hours);
            return all;
        }

        int wellBehind(int hours) {
            int many = 0;
            for (int p = 0; p < PLACES; p++) {
                if (needBehind(p, hours) == 0) many++;
            }
            return many;
        }

        int hoursUntilWell(int place) {
            int needs = need[place];
            for (int later = 0; later <= 60; later++) {
                if (needs == 0) return later;
                needs = needNext(place, needs, later);
            }
            return NEVER;
        }

        int allStood() {
            int all = 0;
            for (int c = 0; c < children; c++) all += stood[c];
            return all;
        }

        void goStep(int what, int n) {
            switch (what) {
                case GO_HOUR: goHour(); break;
                case LIFT_FINGER: finger[n] = NEVER; break;
                case SPIN_ALL: carryFingers(n); break;
                case MAKE_WELL: need[n] = 0; break;
                default: break;
            }
        }

        // ---- what was seen

        /** Whether all that was seen is so, but for one place (NEVER: for none). */
        boolean isAllSoBut(int place, Rows seen) {
            for (int p = 0; p < PLACES; p++) {
                if (p != place && !isSo(p, seen)) return false;
            }
            return true;
        }

        /** Whether all that was seen of one place is so. */
        boolean isSo(int place, Rows seen) {
            int last = -1;
            for (int i = 0; i < seen.size; i++) {
                if (seen.first[i] == place) last = Math.max(last, seen.second[i]);
            }
            int needs = need[place];
            for (int later = 0; later <= last; later++) {
                for (int i = 0; i < seen.size; i++) {
                    boolean then = seen.first[i] == place && seen.second[i] == later;
                    if (then && seen.third[i] != needs) return false;
                }
                needs = needNext(place, needs, later);
            }
            return true;
        }
    }

    /**
     * The clauses of one text. Each condition is kept with what it joins ahead of how it joins it,
     * so that it is worked out from the left on with the answers so far as bits.
     */
    private static final class School {
        static final int GROW_WITHOUT = 2, SUM_WITHOUT = 4;
        static final String SIGNS = "pkvxnh";
        static final int LETTERS = 6;
        static final int NOT = -1, AND = -2, OR = -3;
        static final int BELOW = 0, SAME = 1, ABOVE = 2;

        int grow;
        private int clauses;
        /** The n of each more, and that of each less below 0. */
        private final int[] amount = new int[CLAUSES];
        /** Where the code of each clause ends. */
        private final int[] end = new int[CLAUSES];
        private final int[] code = new int[TEXT_BYTES];
        private int codes;

        void empty() {
            grow = GROW_WITHOUT;
            clauses = 0;
            codes = 0;
        }

        void put(int step) {
            if (codes >= code.length) return;
            code[codes] = step;
            codes++;
        }

        void endClause(int n) {
            if (clauses >= CLAUSES) return;
            amount[clauses] = n;
            end[clauses] = codes;
            clauses++;
        }

        int sum(int[] facts) {
            int sum = SUM_WITHOUT;
            int i = 0;
            for (int clause = 0; clause < clauses; clause++) {
                long answers = 0;
                for (; i < end[clause]; i++) answers = goOn(answers, code[i], facts);
                if ((answers & 1) == 1) sum += amount[clause];
            }
            return sum;
        }

        /** The answers so far, the last one lowest, behind one more step. */
        private static long goOn(long answers, int step, int[] facts) {
            switch (step) {
                case NOT: return answers ^ 1;
                case AND: return answers >> 2 << 1 | (answers >> 1 & answers & 1);
                case OR: return answers >> 2 << 1 | ((answers >> 1 | answers) & 1);
                default: break;
            }
            int letter = step >> 9;
            if (letter < 0 || letter >= facts.length) return answers << 1;
            int way = step >> 7 & 3;
            int number = step & 127;
            int fact = facts[letter];
            boolean so = way == BELOW ? fact < number : way == SAME ? fact == number : fact > number;
            return answers << 1 | (so ? 1 : 0);
        }

        static int test(int letter, int way, int number) {
            return letter << 9 | way << 7 | number;
        }
    }

    /**
     * The text, and how a school is read from it. Each byte is taken only if some school goes on so:
     * where the reading stops is the fault.
     */
    private static final class Reader {
        private final byte[] text = new byte[TEXT_BYTES];
        int length;
        private int at;
        private int number;
        private School into;

        int take(int sign) {
            if (length >= TEXT_BYTES) return FULL;
            text[length] = (byte) sign;
            length++;
            return length;
        }

        /** Empties the text: the fault, or -1 if there is none. */
        int readInto(School school) {
            into = school;
            into.empty();
            at = 0;
            boolean whole = isClause();
            for (int i = 1; i < CLAUSES && whole && at < length; i++) whole = isSign(';') && isClause();
            boolean faulty = !whole || at < length;
            length = 0;
            return faulty ? at : -1;
        }

        private boolean isClause() {
            if (next() == 'g') return isGrow();
            boolean more = next() == 'm';
            if (!isWord(more ? "more " : "less ") || !isNumber()) return false;
            int n = more ? number : -number;
            if (!isSign(' ') || !isAny(0)) return false;
            into.endClause(n);
            return true;
        }

        private boolean isGrow() {
            if (!isWord("grow ") || !isNumber()) return false;
            into.grow = number;
            return true;
        }

        /** E, within so many ( and !. */
        private boolean isAny(int depth) {
            if (!isAll(depth)) return false;
            for (int i = 0; i < TEXT_BYTES && next() == '|'; i++) {
                at++;
                if (!isAll(depth)) return false;
                into.put(School.OR);
            }
            return true;
        }

        /** T. */
        private boolean isAll(int depth) {
            if (!isOne(depth)) return false;
            for (int i = 0; i < TEXT_BYTES && next() == '&'; i++) {
                at++;
                if (!isOne(depth)) return false;
                into.put(School.AND);
            }
            return true;
        }

        /** F. */
        private boolean isOne(int depth) {
            int sign = next();
            if (sign != '!' && sign != '(') return isTest();
            if (depth >= NESTED) return false;
            at++;
            if (sign == '(') return isAny(depth + 1) && isSign(')');
            if (!isOne(depth + 1)) return false;
            into.put(School.NOT);
            return true;
        }

        private boolean isTest() {
            int letter = next() < 0 ? -1 : School.SIGNS.indexOf((char) next());
            if (letter < 0) return false;
            at++;
            int way = wayOf(next());
            if (way < 0) return false;
            at++;
            if (!isNumber()) return false;
            into.put(School.test(letter, way, number));
            return true;
        }

        private static int wayOf(int sign) {
            switch (sign) {
                case '<': return School.BELOW;
                case '=': return School.SAME;
                case '>': return School.ABOVE;
                default: return -1;
            }
        }

        private boolean isNumber() {
            int digits = 0;
            number = 0;
            while (digits < 2 && at < length && text[at] >= '0' && text[at] <= '9') {
                number = number * 10 + text[at] - '0';
                at++;
                digits++;
            }
            return digits > 0;
        }

        private boolean isWord(String word) {
            for (int i = 0; i < word.length(); i++) {
                if (!isSign(word.charAt(i))) return false;
            }
            return true;
        }

        private boolean isSign(int sign) {
            if (next() != sign) return false;
            at++;
            return true;
        }

        /** The byte that comes next; -1 at the end. */
        private int next() {
            return at >= 0 && at < length ? text[at] : -1;
        }
    }

    /** Whom to put where, no two to the same place, so that most is seen to. */
    private static final class Posts {
        private final int[] care = new int[CHILDREN * PLACES];
        /** By the places given to the first children, as bits: the most that the rest can have. */
        private final int[] rest = new int[1 << PLACES];

        int most(Globe globe) {
            weigh(globe);
            return rest[0];
        }

        /** Each child in its turn has the first place by which the most can still be had. */
        int placeOf(Globe globe, int child) {
            weigh(globe);
            int given = 0;
            int place = NONE;
            for (int c = 0; c <= child; c++) {
                place = firstBest(c, given);
                if (place < 0) return NONE;
                given |= 1 << place;
            }
            return place;
        }

        private int firstBest(int child, int given) {
            for (int p = 0; p < PLACES; p++) {
                if ((given >> p & 1) == 0 && withPlace(child, p, given) == rest[given]) return p;
            }
            return NONE;
        }

        private int withPlace(int child, int place, int given) {
            return care[child * PLACES + place] + rest[given | 1 << place];
        }

        private void weigh(Globe globe) {
            for (int c = 0; c < globe.children; c++) {
                for (int p = 0; p < PLACES; p++) {
                    int alone = globe.careNow(c, p, false);
                    care[c * PLACES + p] = Math.max(0, Math.min(MOST_CARE, alone));
                }
            }
            // A set comes behind every set that holds it.
            for (int given = rest.length - 1; given >= 0; given--) {
                int child = Integer.bitCount(given);
                if (child <= globe.children) rest[given] = child == globe.children ? 0 : mostOf(child, given);
            }
        }

        private int mostOf(int child, int given) {
            int most = 0;
            for (int p = 0; p < PLACES; p++) {
                if ((given >> p & 1) == 0) most = Math.max(most, withPlace(child, p, given));
            }
            return most;
        }
    }

    /** The bodies of what a child does, and which of them ran. */
    private static final class Acts {
        static final int POINTS = 0, SEES = 1, TELLS = 2, EACH = 3;
        /** The body of each kind for each act; 0: it has none. */
        private static final int[] BODIES = {
            10, 11, 12,
            0, 20, 0,
            30, 0, 0,
            0, 0, 40,
            50, 51, 0,
            0, 0, 60,
            71, 70, 0,
        };
        private static final int DEEPEST = 20;

        final int[] bodies = new int[20];
        int ran;
        private int kind;
        private int number;
        private int v;

        void forget() {
            ran = 0;
        }

        int keptBodies() {
            return Math.min(ran, bodies.length);
        }

        int begin(Globe globe, int child, int what, int x) {
            kind = globe.kind[child];
            number = child;
            v = globe.v[child];
            return run(kind, what, x, 0);
        }

        /** The body of the kind, or of the next one above that has one. */
        private int run(int from, int what, int x, int depth) {
            int owner = from;
            for (int i = 0; i < KINDS && owner > CHILD && BODIES[owner * EACH + what] == 0; i++) {
                owner = KIND_ABOVE[owner];
            }
            if (owner < 0 || depth > DEEPEST) return 0;
            int body = BODIES[owner * EACH + what];
            if (ran < bodies.length) bodies[ran] = body;
            ran++;
            return answer(body, KIND_ABOVE[owner], x, depth + 1);
        }

        private int answer(int body, int above, int x, int depth) {
            switch (body) {
                case 10: return x + number;
                case 11: return run(kind, POINTS, x, depth) - v;
                case 12: return run(kind, SEES, x, depth) * 2;
                case 20: return run(above, SEES, x, depth) ^ 6;
                case 30: return run(above, POINTS, x * 3, depth);
                case 40: return run(above, TELLS, x, depth) + run(kind, SEES, 1, depth);
                case 50: return -run(above, POINTS, x, depth);
                case 51: return run(above, SEES, x + 1, depth);
                case 60: return run(above, TELLS, x - number, depth);
                case 70: return run(above, SEES, x, depth) + run(above, POINTS, 2, depth);
                case 71: return run(above, POINTS, x, depth) ^ v;
                default: return 0;
            }
        }
    }

    /** A row of items of one sort, or nothing: then its length is 0. */
    private static final class Tape {
        static final int EMPTY = -1, BYTES = 0, SHORTS = 1, INTS = 2, BOOLEANS = 4;

        int sort = EMPTY;
        int length;
        final long[] items = new long[TAPE_ITEMS];

        int become(int newSort, int newLength) {
            sort = newSort;
            length = newLength;
            Arrays.fill(items, 0L);
            return 1;
        }

        long narrowed(long value) {
            switch (sort) {
                case BYTES: return (byte) value;
                case SHORTS: return (short) value;
                case INTS: return (int) value;
                case BOOLEANS: return value != 0 ? 1 : 0;
                default: return value;
            }
        }

        boolean hasRun(int from, int n) {
            return n >= 0 && from >= 0 && from <= length - n;
        }
    }
}
