import java.util.ArrayList;
import java.util.Arrays;
import java.util.List;
import java.util.TreeSet;

/**
 * The document told again as plainly as it goes, with no eye on speed or room: children are objects of
 * classes, the globe is copied and lived on hour by hour, texts are read anew each time, and every way
 * is tried. It shares no code and no short cut with GlobeCorner.
 */
final class Model {
    static final int NONE = -1, BAD = -2, STATE = -3, FULL = -4;
    static final long NO = Long.MIN_VALUE;

    // ---- children

    static class Child {
        int i, kind, v, finger = -5, stood;
        int[] row = new int[4];

        int care(State s, int place) { return s.sum(this, place); }
        int points(int x, List<Integer> t) { t.add(10); return x + i; }
        int sees(int x, List<Integer> t) { t.add(11); return points(x, t) - v; }
        int tells(int x, List<Integer> t) { t.add(12); return sees(x, t) * 2; }
        boolean another(State s, int place) {
            return s.children.stream().anyMatch(c -> c.i != i && c.finger == place);
        }
        Child copy() {
            Child c = make(kind);
            c.i = i; c.kind = kind; c.v = v; c.finger = finger; c.stood = stood; c.row = row.clone();
            return c;
        }
        static Child make(int kind) {
            switch (kind) {
                case 0: return new Child();
                case 1: return new Good();
                case 2: return new Bad();
                case 3: return new Dreamy();
                case 4: return new Monitor();
                case 5: return new Sulky();
                default: return new Told();
            }
        }
    }
    static class Good extends Child {
        @Override int care(State s, int place) { return super.care(s, place) + v; }
        @Override int sees(int x, List<Integer> t) { t.add(20); return super.sees(x, t) ^ 6; }
    }
    static class Bad extends Child {
        @Override int care(State s, int place) { return super.care(s, place) / 2; }
        @Override int points(int x, List<Integer> t) { t.add(30); return super.points(x * 3, t); }
    }
    static class Dreamy extends Child {
        @Override int care(State s, int place) { return s.hour % 4 == 3 ? 0 : super.care(s, place); }
        @Override int tells(int x, List<Integer> t) { t.add(40); return super.tells(x, t) + sees(1, t); }
    }
    static class Monitor extends Good {
        @Override int care(State s, int place) {
            int care = super.care(s, place);
            return another(s, place) ? 2 * care : care;
        }
        @Override int points(int x, List<Integer> t) { t.add(50); return -super.points(x, t); }
        @Override int sees(int x, List<Integer> t) { t.add(51); return super.sees(x + 1, t); }
    }
    static class Sulky extends Bad {
        @Override int care(State s, int place) { return super.care(s, place) - Math.min(9, stood / 5); }
        @Override int tells(int x, List<Integer> t) { t.add(60); return super.tells(x - i, t); }
    }
    static class Told extends Dreamy {
        @Override int care(State s, int place) { return super.care(s, place) + row[place % 4]; }
        @Override int sees(int x, List<Integer> t) { t.add(70); return super.sees(x, t) + super.points(2, t); }
        @Override int points(int x, List<Integer> t) { t.add(71); return super.points(x, t) ^ v; }
    }

    // ---- all that the image holds

    static final class State {
        int[] need = new int[12];
        List<Child> children = new ArrayList<>();
        int hour;
        String school = "";
        List<int[]> seen = new ArrayList<>(), plan = new ArrayList<>(), book = new ArrayList<>();

        State() { Arrays.fill(need, 20); }

        State copy() {
            State s = new State();
            s.need = need.clone();
            for (Child c : children) s.children.add(c.copy());
            s.hour = hour;
            s.school = school;
            s.seen.addAll(seen);
            s.plan.addAll(plan);
            s.book.addAll(book);
            return s;
        }

        String[] clauses() { return school.isEmpty() ? new String[0] : school.split(";"); }

        int grow() {
            int grow = 2;
            for (String c : clauses()) if (c.startsWith("grow")) grow = Integer.parseInt(c.substring(5));
            return grow;
        }

        int sum(Child c, int place) {
            int sum = 4;
            for (String clause : clauses()) {
                String[] parts = clause.split(" ");
                if (parts[0].equals("grow") || !holds(parts[2], c, place)) continue;
                sum += parts[0].equals("more") ? Integer.parseInt(parts[1]) : -Integer.parseInt(parts[1]);
            }
            return sum;
        }

        /** By taking the text apart at the outermost |, then &, then what stands in front. */
        boolean holds(String e, Child c, int place) {
            int at = outermost(e, '|');
            if (at >= 0) return holds(e.substring(0, at), c, place) | holds(e.substring(at + 1), c, place);
            at = outermost(e, '&');
            if (at >= 0) return holds(e.substring(0, at), c, place) & holds(e.substring(at + 1), c, place);
            if (e.startsWith("!")) return !holds(e.substring(1), c, place);
            if (e.startsWith("(")) return holds(e.substring(1, e.length() - 1), c, place);
            int n = Integer.parseInt(e.substring(2));
            int fact = 0;
            switch (e.charAt(0)) {
                case 'p': fact = c.i; break;
                case 'k': fact = c.kind; break;
                case 'v': fact = c.v; break;
                case 'x': fact = place; break;
                case 'n': fact = need[place] / 10; break;
                case 'h': fact = hour % 10; break;
                default: throw new IllegalStateException(e);
            }
            return e.charAt(1) == '<' ? fact < n : e.charAt(1) == '=' ? fact == n : fact > n;
        }

        static int outermost(String e, char sign) {
            int open = 0;
            for (int i = 0; i < e.length(); i++) {
                if (e.charAt(i) == '(') open++;
                if (e.charAt(i) == ')') open--;
                if (open == 0 && e.charAt(i) == sign) return i;
            }
            return -1;
        }

        State go(int hours) {
            for (int n = 0; n < hours; n++) {
                State ahead = copy();
                for (int p = 0; p < 12; p++) {
                    int all = ahead.need[p] + grow();
                    for (Child c : ahead.children) if (c.finger == p) all -= Math.max(0, c.care(ahead, p));
                    need[p] = Math.max(0, Math.min(99, all));
                }
                for (Child c : children) if (c.finger >= 0) c.stood++;
                hour++;
            }
            return this;
        }

        State spin(int s) {
            for (Child c : children) if (c.finger >= 0) c.finger = (c.finger + s) % 12;
            return this;
        }

        int all() { return Arrays.stream(need).sum(); }
        int well() { return (int) Arrays.stream(need).filter(n -> n == 0).count(); }

        boolean allSeenIsSo() {
            for (int[] r : seen) if (copy().go(r[1]).need[r[0]] != r[2]) return false;
            return true;
        }
    }

    State now = new State();
    State kept;
    List<String> schools = new ArrayList<>();
    String text = "";
    List<Integer> trace = new ArrayList<>();
    int[] sorts = {-1, -1, -1, -1, -1, -1};
    long[][] tapes = new long[6][];

    boolean isChild(int c) { return c >= 0 && c < now.children.size(); }
    static boolean in(int n, int low, int high) { return low <= n && n <= high; }

    // ---- children, places, schools

    int child(int kind, int v) {
        if (!in(kind, 0, 6)) return NONE;
        if (!in(v, 0, 9)) return BAD;
        if (now.children.size() == 6) return FULL;
        Child c = Child.make(kind);
        c.i = now.children.size();
        c.kind = kind;
        c.v = v;
        now.children.add(c);
        return c.i;
    }

    int of(int child, int what) {
        if (!isChild(child)) return -10001;
        Child c = now.children.get(child);
        if (what == 0) return c.kind;
        if (what == 1) return c.v;
        if (what == 2) return c.finger;
        if (what == 3) return c.stood;
        return in(what, 10, 21) ? c.care(now, what - 10) : -10001;
    }

    int spot(int spot, int what) {
        if (!in(spot, 0, 11) || !in(what, 0, 3)) return NONE;
        if (what == 0) return now.need[spot];
        if (what == 1) {
            State s = now.copy();
            for (int h = 0; h <= 60; h++, s.go(1)) if (s.need[spot] == 0) return h;
            return -5;
        }
        List<Integer> fit = new ArrayList<>();
        for (int n = 0; n <= 99; n++) {
            State s = now.copy();
            s.need[spot] = n;
            if (s.allSeenIsSo()) fit.add(n);
        }
        return what == 2 ? fit.size() : fit.isEmpty() ? -5 : fit.get(0);
    }

    int point(int child, int spot) {
        if (!isChild(child) || !in(spot, -1, 11)) return NONE;
        int was = now.children.get(child).finger;
        now.children.get(child).finger = spot < 0 ? -5 : spot;
        return was;
    }

    int need(int spot, int n) {
        if (!in(spot, 0, 11)) return NONE;
        if (!in(n, 0, 99)) return BAD;
        int was = now.need[spot];
        now.need[spot] = n;
        return was;
    }

    int spin(int s) {
        if (!in(s, 0, 11)) return BAD;
        now.spin(s);
        return (int) now.children.stream().filter(c -> c.finger >= 0).count();
    }

    int bell() {
        int were = (int) now.children.stream().filter(c -> c.finger >= 0).count();
        for (Child c : now.children) c.finger = -5;
        return were;
    }

    int row(int child, int part, int n) {
        if (!isChild(child) || !in(part, 0, 3)) return NONE;
        if (!in(n, 0, 9)) return BAD;
        Child c = now.children.get(child);
        if (c.kind != 6) return STATE;
        int was = c.row[part];
        c.row[part] = n;
        return was;
    }

    int feed(int sign) {
        if (!in(sign, 0, 127)) return BAD;
        if (text.length() == 100) return FULL;
        text += (char) sign;
        return text.length();
    }

    int school() {
        if (schools.size() == 6) return FULL;
        String read = text;
        text = "";
        int fault = Grammar.fault(read);
        if (fault >= 0) return -10 - fault;
        schools.add(read);
        now.school = read;
        return schools.size() - 1;
    }

    int told(int what) {
        if (what == 0) return now.hour;
        if (what == 1) return now.grow();
        if (what == 2) return now.all();
        if (what == 3) return now.well();
        if (what != 4 && !(what >= 10 && isChild(what - 10))) return NONE;
        Ways ways = new Ways(now);
        ways.tryAll(0, 0, 0);
        return what == 4 ? ways.best : ways.bestRow[what - 10];
    }

    /** Every way to give each child a place, in order. */
    static final class Ways {
        final int many;
        final int[][] care;
        final int[] row;
        int[] bestRow;
        int best = -1;

        Ways(State now) {
            many = now.children.size();
            care = new int[many][12];
            row = new int[many];
            State alone = now.copy();
            for (Child c : alone.children) c.finger = -5;
            for (Child c : alone.children) {
                for (int p = 0; p < 12; p++) care[c.i][p] = Math.min(99, Math.max(0, c.care(alone, p)));
            }
        }

        void tryAll(int child, int taken, int sum) {
            if (child == many) {
                if (sum > best) {
                    best = sum;
                    bestRow = row.clone();
                }
                return;
            }
            for (int p = 0; p < 12; p++) {
                if ((taken >> p & 1) == 1) continue;
                row[child] = p;
                tryAll(child + 1, taken | 1 << p, sum + care[child][p]);
            }
        }
    }

    // ---- hours

    int pass(int n) {
        if (!in(n, 0, 60)) return BAD;
        if (now.hour + n > 9999) return STATE;
        now.go(n);
        return now.hour;
    }

    int on(int n, int what) {
        if (!in(what, 0, 1) && !in(what, 10, 21)) return NONE;
        if (!in(n, 0, 60)) return BAD;
        State s = now.copy().go(n);
        return what == 0 ? s.all() : what == 1 ? s.well() : s.need[what - 10];
    }

    int crowd(int spot, int n) {
        if (!in(spot, 0, 11)) return NONE;
        if (!in(n, 1, 12)) return BAD;
        for (int many = 0; many <= now.children.size(); many++) {
            for (int set = 0; set < 1 << now.children.size(); set++) {
                if (Integer.bitCount(set) != many) continue;
                State s = now.copy();
                for (Child c : s.children) c.finger = (set >> c.i & 1) == 1 ? spot : -5;
                if (s.go(n).need[spot] == 0) return set;
            }
        }
        return -5;
    }

    int turn(int n) {
        if (!in(n, 1, 12)) return BAD;
        int best = 0;
        for (int s = 0; s < 12; s++) {
            if (now.copy().spin(s).go(n).all() < now.copy().spin(best).go(n).all()) best = s;
        }
        return best;
    }

    // ---- seen, odds

    int see(int spot, int n, int need) {
        if (spot == -1) {
            now.seen.clear();
            return 0;
        }
        if (!in(spot, 0, 11)) return NONE;
        if (!in(n, 0, 12) || !in(need, 0, 99)) return BAD;
        if (now.seen.size() == 5) return FULL;
        now.seen.add(new int[] {spot, n, need});
        return now.seen.size();
    }

    int can(int child, int what) {
        if (!isChild(child) || !in(what, 0, 1)) return NONE;
        List<Integer> fit = new ArrayList<>();
        for (int v = 0; v <= 9; v++) {
            State s = now.copy();
            s.children.get(child).v = v;
            if (s.allSeenIsSo()) fit.add(v);
        }
        return what == 0 ? fit.size() : fit.isEmpty() ? -5 : fit.get(0);
    }

    static long lowest(long above, long below, int part) {
        long a = above;
        long b = below;
        while (b != 0) {
            long r = a % b;
            a = b;
            b = r;
        }
        return (part == 0 ? above : below) / a;
    }

    long odds(int child, int spot, int n, int part) {
        if (!isChild(child) || !in(spot, 0, 11) || !in(n, 0, 20) || !in(part, 0, 1)) return NO;
        int well = 0;
        for (int p = 0; p < 12; p++) {
            State s = now.copy();
            s.children.get(child).finger = p;
            if (s.go(n).need[spot] == 0) well++;
        }
        return lowest(well, 12, part);
    }

    long mean(int n, int part) {
        if (!in(n, 0, 60) || !in(part, 0, 1)) return NO;
        return lowest(now.copy().go(n).all(), 12, part);
    }

    // ---- plans, books

    int plan(int what, int n) {
        if (what == -1) {
            now.plan.clear();
            return 0;
        }
        if (!in(what, 0, 3)) return NONE;
        if (what == 1 && !isChild(n)) return NONE;
        if (what == 3 && !in(n, 0, 11)) return NONE;
        if (what == 2 && !in(n, 0, 11)) return BAD;
        if (now.plan.size() == 10) return FULL;
        now.plan.add(new int[] {what, n});
        return now.plan.size();
    }

    int ends(int what) {
        if (!in(what, 0, 1)) return NONE;
        State s = now.copy();
        for (int[] r : now.plan) {
            if (r[0] == 0) s.go(1);
            if (r[0] == 1) s.children.get(r[1]).finger = -5;
            if (r[0] == 2) s.spin(r[1]);
            if (r[0] == 3) s.need[r[1]] = 0;
        }
        return what == 0 ? s.all() : s.children.stream().mapToInt(c -> c.stood).sum();
    }

    int book(int spot, int need) {
        if (spot == -1) {
            now.book.clear();
            return 0;
        }
        if (!in(spot, 0, 11)) return NONE;
        if (!in(need, 0, 99)) return BAD;
        if (now.book.size() == 8) return FULL;
        now.book.add(new int[] {spot, need});
        return now.book.size();
    }

    int looked() {
        for (int[] r : now.book) if (now.need[r[0]] != r[1]) return now.book.indexOf(r);
        return -5;
    }

    // ---- judging, the image, acts, tapes

    int judge(int tape, int i) {
        if (!in(tape, 0, 5)) return NONE;
        if (sorts[tape] > 0) return -12;
        if (sorts[tape] < 0 || i < 0) return 100;
        for (int p = 0; p < 12; p++) {
            if ((long) i + p >= tapes[tape].length) return 100 + p;
            if (tapes[tape][i + p] != now.need[p]) return p;
        }
        return -5;
    }

    int image() {
        kept = now.copy();
        return now.children.size();
    }

    int undo() {
        if (kept == null) return STATE;
        now = kept.copy();
        return now.children.size();
    }

    int act(int child, int act, int x) {
        trace.clear();
        if (!isChild(child) || !in(act, 0, 2)) return 0;
        Child c = now.children.get(child);
        return act == 0 ? c.points(x, trace) : act == 1 ? c.sees(x, trace) : c.tells(x, trace);
    }

    int trace(int i) { return in(i, 0, Math.min(20, trace.size()) - 1) ? trace.get(i) : NONE; }

    int taken(int child, int k) {
        if (!in(k, 0, 6)) return BAD;
        if (!isChild(child)) return -11;
        Child c = now.children.get(child);
        return Child.make(k).getClass().isInstance(c) ? c.kind : -12;
    }

    int count(int what) {
        switch (what) {
            case 0: return now.children.size();
            case 1: return schools.size();
            case 2: return now.seen.size();
            case 3: return now.plan.size();
            case 4: return now.book.size();
            case 5: return text.length();
            case 6: return trace.size();
            default: return BAD;
        }
    }

    int tape(int tape, int sort, int n) {
        if (!in(tape, 0, 5)) return NONE;
        if (!in(sort, -1, 4)) return BAD;
        if (sort >= 0 && n > 60) return BAD;
        if (sort >= 0 && n < 0) return -14;
        sorts[tape] = sort;
        tapes[tape] = sort < 0 ? null : new long[n];
        return 1;
    }

    int item(int tape, int i, long v) {
        if (!in(tape, 0, 5)) return NONE;
        if (tapes[tape] == null) return -11;
        if (!in(i, 0, tapes[tape].length - 1)) return -13;
        int[] spare = {56, 48, 32, 0};
        tapes[tape][i] = sorts[tape] == 4 ? (v == 0 ? 0 : 1) : v << spare[sorts[tape]] >> spare[sorts[tape]];
        return 1;
    }

    long read(int tape, int i) {
        if (!in(tape, 0, 5) || tapes[tape] == null || !in(i, 0, tapes[tape].length - 1)) return NO;
        return tapes[tape][i];
    }

    int shift(int tape, int i, int other, int j, int n) {
        if (!in(tape, 0, 5) || !in(other, 0, 5)) return NONE;
        if (tapes[tape] == null || tapes[other] == null) return -11;
        if (sorts[tape] != sorts[other]) return -12;
        if (n < 0 || i < 0 || j < 0) return -13;
        if ((long) i + n > tapes[tape].length || (long) j + n > tapes[other].length) return -13;
        long[] before = tapes[tape].clone();
        for (int k = 0; k < n; k++) tapes[other][j + k] = before[i + k];
        return n;
    }

    /** All ends that a part of the grammar can have, and whether the text ran out on the way. */
    static final class Grammar {
        final String text;
        boolean ranOut;

        Grammar(String text) { this.text = text; }

        static int fault(String text) {
            for (int i = 1; i <= text.length(); i++) {
                Grammar g = new Grammar(text.substring(0, i));
                boolean whole = g.clauses().contains(i);
                if (!whole && !g.ranOut) return i - 1;
            }
            return new Grammar(text).clauses().contains(text.length()) ? -1 : text.length();
        }

        TreeSet<Integer> clauses() {
            TreeSet<Integer> all = new TreeSet<>();
            TreeSet<Integer> from = start();
            for (int i = 1; i <= 10; i++) {
                from = clause(i == 1 ? from : word(from, ";"));
                all.addAll(from);
            }
            return all;
        }

        static TreeSet<Integer> start() { return new TreeSet<>(List.of(0)); }

        TreeSet<Integer> clause(TreeSet<Integer> from) {
            TreeSet<Integer> to = any(word(number(word(from, "more ")), " "), 0);
            to.addAll(any(word(number(word(from, "less ")), " "), 0));
            to.addAll(number(word(from, "grow ")));
            return to;
        }

        TreeSet<Integer> any(TreeSet<Integer> from, int depth) {
            if (from.isEmpty()) return from;
            TreeSet<Integer> to = all(from, depth);
            to.addAll(any(word(to, "|"), depth));
            return to;
        }

        TreeSet<Integer> all(TreeSet<Integer> from, int depth) {
            if (from.isEmpty()) return from;
            TreeSet<Integer> to = one(from, depth);
            to.addAll(all(word(to, "&"), depth));
            return to;
        }

        TreeSet<Integer> one(TreeSet<Integer> from, int depth) {
            TreeSet<Integer> to = number(oneOf(oneOf(from, "pkvxnh"), "<=>"));
            if (depth == 4 || from.isEmpty()) return to;
            to.addAll(one(word(from, "!"), depth + 1));
            to.addAll(word(any(word(from, "("), depth + 1), ")"));
            return to;
        }

        TreeSet<Integer> number(TreeSet<Integer> from) {
            TreeSet<Integer> to = oneOf(from, "0123456789");
            to.addAll(oneOf(to, "0123456789"));
            return to;
        }

        TreeSet<Integer> word(TreeSet<Integer> from, String word) {
            TreeSet<Integer> to = from;
            for (char c : word.toCharArray()) to = oneOf(to, String.valueOf(c));
            return to;
        }

        TreeSet<Integer> oneOf(TreeSet<Integer> from, String signs) {
            TreeSet<Integer> to = new TreeSet<>();
            for (int at : from) {
                if (at == text.length()) ranOut = true;
                else if (signs.indexOf(text.charAt(at)) >= 0) to.add(at + 1);
            }
            return to;
        }
    }
}
