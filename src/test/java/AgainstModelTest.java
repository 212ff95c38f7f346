import java.util.Random;

/** Runs of calls by a fixed seed, each answered by GlobeCorner as by the plain Model. */
public final class AgainstModelTest {
    private static final int RUNS = Integer.getInteger("runs", 300);
    private static final int CALLS = 512;

    private final Random random;
    private final long seed;
    private final boolean wild;
    private final GlobeCorner g = new GlobeCorner();
    private final Model m = new Model();
    private int calls;
    private int wrong;
    private String waiting = "";
    private final StringBuilder told = new StringBuilder();

    private AgainstModelTest(long seed) {
        this.seed = seed;
        this.random = new Random(seed);
        this.wild = seed % 5 == 0;
    }

    public static void main(String[] args) {
        int wrong = 0;
        long first = Long.getLong("seed", 1L);
        for (long seed = first; seed < first + RUNS; seed++) {
            AgainstModelTest run = new AgainstModelTest(seed);
            run.go();
            if (run.wrong > 0) {
                wrong++;
                System.out.println("seed " + seed + ":" + run.told);
            }
        }
        System.out.println(RUNS + " runs, " + wrong + " not as the model's");
        if (wrong > 0) System.exit(1);
    }

    private void go() {
        if (random.nextInt(4) > 0) settle();
        while (calls < CALLS && wrong == 0) step();
    }

    private void settle() {
        int many = 1 + random.nextInt(6);
        for (int i = 0; i < many; i++) {
            int kind = random.nextInt(7);
            int v = random.nextInt(10);
            same("child(" + kind + ", " + v + ")", g.child(kind, v), m.child(kind, v));
            int place = random.nextInt(random.nextBoolean() ? 12 : 3);
            same("point(" + i + ", " + place + ")", g.point(i, place), m.point(i, place));
        }
    }

    private void same(String call, long got, long want) {
        calls++;
        told.append("\n  ").append(call).append(" -> ").append(got);
        if (got == want) return;
        wrong++;
        told.append(", due is ").append(want);
    }

    /** Mostly within the bounds, at times just beyond one, rarely far off. */
    private int num(int low, int high) {
        int r = random.nextInt(wild ? 8 : 40);
        if (r == 0) return low - 1;
        if (r == 1) return high + 1;
        if (r == 2) return random.nextBoolean() ? low : high;
        if (r == 3 && random.nextInt(4) == 0) return random.nextInt();
        if (r == 4 && random.nextInt(4) == 0) return random.nextBoolean() ? Integer.MAX_VALUE : Integer.MIN_VALUE;
        return low + random.nextInt(high - low + 1);
    }

    private int kid() {
        return num(0, Math.max(0, m.now.children.size() - 1));
    }

    private void step() {
        if (!waiting.isEmpty() && random.nextInt(12) > 0) {
            int sign = waiting.charAt(0);
            waiting = waiting.substring(1);
            same("feed(" + sign + ")", g.feed(sign), m.feed(sign));
            if (waiting.isEmpty() && random.nextInt(10) > 0) same("school()", g.school(), m.school());
            return;
        }
        switch (random.nextInt(6)) {
            case 0: change(); break;
            case 1: ask(); break;
            case 2: foresee(); break;
            case 3: tellRows(); break;
            case 4: tapes(); break;
            default: rest(); break;
        }
    }

    private void change() {
        int a = kid();
        switch (random.nextInt(8)) {
            case 0: {
                int kind = num(0, 6), v = num(0, 9);
                same("child(" + kind + ", " + v + ")", g.child(kind, v), m.child(kind, v));
                break;
            }
            case 1: case 2: {
                int p = num(-1, random.nextBoolean() ? 11 : 3);
                same("point(" + a + ", " + p + ")", g.point(a, p), m.point(a, p));
                break;
            }
            case 3: {
                int p = num(0, 11), n = num(0, 99);
                same("need(" + p + ", " + n + ")", g.need(p, n), m.need(p, n));
                break;
            }
            case 4: {
                int s = num(0, 11);
                same("spin(" + s + ")", g.spin(s), m.spin(s));
                break;
            }
            case 5: {
                int part = num(0, 3), n = num(0, 9);
                same("row(" + a + ", " + part + ", " + n + ")", g.row(a, part, n), m.row(a, part, n));
                break;
            }
            case 6: {
                int n = num(0, random.nextInt(3) == 0 ? 60 : 6);
                same("pass(" + n + ")", g.pass(n), m.pass(n));
                break;
            }
            default:
                if (random.nextInt(6) == 0) same("bell()", g.bell(), m.bell());
                if (waiting.isEmpty()) waiting = new Texts(random).text();
                break;
        }
    }

    private void ask() {
        int c = kid();
        switch (random.nextInt(4)) {
            case 0: {
                int what = random.nextBoolean() ? num(0, 3) : num(10, 21);
                same("of(" + c + ", " + what + ")", g.of(c, what), m.of(c, what));
                break;
            }
            case 1: {
                int p = num(0, 11), what = num(0, random.nextInt(4) == 0 ? 3 : 1);
                same("spot(" + p + ", " + what + ")", g.spot(p, what), m.spot(p, what));
                break;
            }
            case 2: {
                int what = random.nextInt(4) == 0 ? num(10, 15) : num(0, random.nextInt(4) == 0 ? 4 : 3);
                same("told(" + what + ")", g.told(what), m.told(what));
                break;
            }
            default: {
                int what = num(0, 6);
                same("count(" + what + ")", g.count(what), m.count(what));
                break;
            }
        }
    }

    private void foresee() {
        int c = kid(), p = num(0, 11);
        switch (random.nextInt(6)) {
            case 0: {
                int n = num(0, 60), what = random.nextBoolean() ? num(0, 1) : num(10, 21);
                same("on(" + n + ", " + what + ")", g.on(n, what), m.on(n, what));
                break;
            }
            case 1: {
                int n = num(1, 12);
                same("crowd(" + p + ", " + n + ")", g.crowd(p, n), m.crowd(p, n));
                break;
            }
            case 2: {
                int n = num(1, 12);
                same("turn(" + n + ")", g.turn(n), m.turn(n));
                break;
            }
            case 3: {
                int what = num(0, 1);
                same("can(" + c + ", " + what + ")", g.can(c, what), m.can(c, what));
                break;
            }
            case 4: {
                int n = num(0, 20), part = num(0, 1);
                same("odds(" + c + ", " + p + ", " + n + ", " + part + ")", g.odds(c, p, n, part), m.odds(c, p, n, part));
                break;
            }
            default: {
                int n = num(0, 60), part = num(0, 1);
                same("mean(" + n + ", " + part + ")", g.mean(n, part), m.mean(n, part));
                break;
            }
        }
    }

    private void tellRows() {
        int p = random.nextInt(12) == 0 ? -1 : num(0, 11);
        int need = num(0, 99);
        switch (random.nextInt(5)) {
            case 0: {
                int n = num(0, 12);
                // What will truly be seen makes rows that hold; many of them are told.
                if (p >= 0 && p < 12 && n >= 0 && n <= 12 && random.nextInt(8) > 0) need = m.on(n, 10 + p);
                same("see(" + p + ", " + n + ", " + need + ")", g.see(p, n, need), m.see(p, n, need));
                break;
            }
            case 1: {
                int what = random.nextInt(16) == 0 ? -1 : num(0, 3);
                int n = what == 1 ? kid() : num(0, 11);
                same("plan(" + what + ", " + n + ")", g.plan(what, n), m.plan(what, n));
                break;
            }
            case 2: {
                int what = num(0, 1);
                same("ends(" + what + ")", g.ends(what), m.ends(what));
                break;
            }
            case 3: {
                if (p >= 0 && p < 12 && random.nextInt(5) > 0) need = m.spot(p, 0);
                same("book(" + p + ", " + need + ")", g.book(p, need), m.book(p, need));
                break;
            }
            default:
                same("looked()", g.looked(), m.looked());
                break;
        }
    }

    private void tapes() {
        int t = num(0, 5), i = num(0, random.nextBoolean() ? 5 : 59);
        switch (random.nextInt(6)) {
            case 0: {
                int sort = num(-1, 4), n = num(0, random.nextBoolean() ? 60 : 14);
                same("tape(" + t + ", " + sort + ", " + n + ")", g.tape(t, sort, n), m.tape(t, sort, n));
                break;
            }
            case 1: {
                long v = random.nextBoolean() ? random.nextLong() : random.nextInt(300);
                same("item(" + t + ", " + i + ", " + v + ")", g.item(t, i, v), m.item(t, i, v));
                break;
            }
            case 2:
                same("read(" + t + ", " + i + ")", g.read(t, i), m.read(t, i));
                break;
            case 3: {
                int o = random.nextInt(3) == 0 ? t : num(0, 5), j = num(0, 5), n = num(0, 10);
                String call = "shift(" + t + ", " + i + ", " + o + ", " + j + ", " + n + ")";
                same(call, g.shift(t, i, o, j, n), m.shift(t, i, o, j, n));
                break;
            }
            case 4:
                if (random.nextInt(4) == 0) tellTruth(random.nextInt(6));
                break;
            default: {
                int from = num(0, 3);
                same("judge(" + t + ", " + from + ")", g.judge(t, from), m.judge(t, from));
                break;
            }
        }
    }

    /** A tape that tells what each place needs, at times not to the end, or with one wrong. */
    private void tellTruth(int t) {
        int from = random.nextInt(3), n = from + 12 - (random.nextBoolean() ? 0 : random.nextInt(4));
        same("tape(" + t + ", 0, " + n + ")", g.tape(t, 0, n), m.tape(t, 0, n));
        int off = random.nextInt(30);
        for (int i = from; i < n; i++) {
            long v = m.now.need[i - from] + (off == i ? 1 : 0);
            same("item(" + t + ", " + i + ", " + v + ")", g.item(t, i, v), m.item(t, i, v));
        }
        same("judge(" + t + ", " + from + ")", g.judge(t, from), m.judge(t, from));
    }

    private void rest() {
        int c = kid();
        switch (random.nextInt(5)) {
            case 0:
                if (random.nextInt(3) == 0) same("image()", g.image(), m.image());
                else if (random.nextInt(4) == 0) same("undo()", g.undo(), m.undo());
                break;
            case 1: case 2: {
                int act = num(0, 2), x = random.nextInt(4) == 0 ? random.nextInt() : num(-20, 20);
                same("act(" + c + ", " + act + ", " + x + ")", g.act(c, act, x), m.act(c, act, x));
                same("count(6)", g.count(6), m.count(6));
                break;
            }
            case 3: {
                int i = num(0, 11);
                same("trace(" + i + ")", g.trace(i), m.trace(i));
                break;
            }
            default: {
                int k = num(0, 6);
                same("taken(" + c + ", " + k + ")", g.taken(c, k), m.taken(c, k));
                break;
            }
        }
    }

    /** Texts by the grammar, some of them spoilt. */
    private static final class Texts {
        private final Random random;

        Texts(Random random) { this.random = random; }

        String text() {
            StringBuilder s = new StringBuilder();
            int clauses = 1 + random.nextInt(random.nextInt(4) == 0 ? 11 : 4);
            for (int i = 0; i < clauses; i++) s.append(i == 0 ? "" : ";").append(clause());
            String text = s.length() > 100 && random.nextBoolean() ? s.substring(0, 100) : s.toString();
            return random.nextInt(4) == 0 ? spoilt(text) : text;
        }

        private String spoilt(String text) {
            StringBuilder s = new StringBuilder(text);
            int at = random.nextInt(s.length());
            String signs = "pkvxnh<=>!()&|; 0123456789molesgrw~qP";
            char sign = signs.charAt(random.nextInt(signs.length()));
            switch (random.nextInt(4)) {
                case 0: s.setLength(at); break;
                case 1: s.setCharAt(at, sign); break;
                case 2: s.deleteCharAt(at); break;
                default: s.insert(at, sign); break;
            }
            return s.toString();
        }

        private String clause() {
            int r = random.nextInt(7);
            if (r == 0) return "grow " + number(random.nextInt(6) == 0 ? 99 : 6);
            return (r < 5 ? "more " : "less ") + number(random.nextInt(5) == 0 ? 99 : 12) + " " + any(0);
        }

        private String number(int high) {
            int n = random.nextInt(high + 1);
            return n < 10 && random.nextInt(6) == 0 ? "0" + n : "" + n;
        }

        private String any(int depth) {
            return all(depth) + (random.nextInt(4) == 0 ? "|" + any(depth) : "");
        }

        private String all(int depth) {
            return one(depth) + (random.nextInt(4) == 0 ? "&" + all(depth) : "");
        }

        private String one(int depth) {
            int r = random.nextInt(8 + 2 * depth);
            boolean deep = depth >= 4 && random.nextInt(20) > 0;
            if (r == 0 && !deep) return "!" + one(depth + 1);
            if (r <= 2 && !deep) return "(" + any(depth + 1) + ")";
            return "pkvxnh".charAt(random.nextInt(6)) + "" + "<=>".charAt(random.nextInt(3)) + number(11);
        }
    }
}
