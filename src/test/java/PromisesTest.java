/** For each promise of the document: ordinary inputs, the edges that it names, and wrong inputs. */
public final class PromisesTest {
    private static final long NO = Long.MIN_VALUE;
    private static final int LOW = Integer.MIN_VALUE, HIGH = Integer.MAX_VALUE;
    private static int promise;
    private static int wrong;

    public static void main(String[] args) {
        aNewObject();
        child();
        of();
        careOfKinds();
        careGoesByTheSchool();
        conditions();
        spot();
        point();
        need();
        spin();
        bell();
        row();
        feed();
        school();
        faults();
        told();
        posts();
        pass();
        passWithAMonitor();
        on();
        crowd();
        turn();
        see();
        can();
        odds();
        mean();
        plan();
        ends();
        book();
        looked();
        judge();
        imageAndUndo();
        act();
        trace();
        taken();
        count();
        tape();
        item();
        read();
        shift();
        askedChangesNothing();
        beyondTheLastHour();
        System.out.println(wrong == 0 ? "all promises hold" : wrong + " answers are not as due");
        if (wrong > 0) System.exit(1);
    }

    private static void due(String call, long got, long want) {
        if (got == want) return;
        wrong++;
        System.out.println("promise " + promise + ": " + call + " answered " + got + ", due is " + want);
    }

    private static GlobeCorner promise(int number) {
        promise = number;
        return new GlobeCorner();
    }

    private static int school(GlobeCorner g, String text) {
        for (char c : text.toCharArray()) g.feed(c);
        return g.school();
    }

    private static GlobeCorner withKinds(int... kinds) {
        GlobeCorner g = new GlobeCorner();
        for (int i = 0; i < kinds.length; i++) g.child(kinds[i], 5);
        return g;
    }

    private static void aNewObject() {
        GlobeCorner g = promise(1);
        due("count(0)", g.count(0), 0);
        due("count(1)", g.count(1), 0);
        due("count(2)", g.count(2), 0);
        due("count(3)", g.count(3), 0);
        due("count(4)", g.count(4), 0);
        due("count(5)", g.count(5), 0);
        due("count(6)", g.count(6), 0);
        due("told(0)", g.told(0), 0);
        due("told(1)", g.told(1), 2);
        for (int p = 0; p < 12; p++) due("spot(" + p + ", 0)", g.spot(p, 0), 20);
        for (int t = 0; t < 6; t++) due("read(" + t + ", 0)", g.read(t, 0), NO);
        due("undo()", g.undo(), -3);
        due("of(0, 0)", g.of(0, 0), -10001);
        due("NO", GlobeCorner.NO, NO);
    }

    private static void child() {
        GlobeCorner g = promise(2);
        due("child(-1, 10)", g.child(-1, 10), -1);
        due("child(7, 0)", g.child(7, 0), -1);
        due("child(0, -1)", g.child(0, -1), -2);
        due("child(6, 10)", g.child(6, 10), -2);
        due("child(LOW, 0)", g.child(LOW, 0), -1);
        due("child(0, HIGH)", g.child(0, HIGH), -2);
        due("count(0)", g.count(0), 0);
        for (int i = 0; i < 6; i++) due("child(" + (6 - i) + ", 9)", g.child(6 - i, 9), i);
        due("child(0, 0)", g.child(0, 0), -4);
        due("child(7, 0)", g.child(7, 0), -1);
        due("child(0, 10)", g.child(0, 10), -2);
        due("count(0)", g.count(0), 6);
        for (int i = 0; i < 6; i++) due("of(" + i + ", 0)", g.of(i, 0), 6 - i);
    }

    private static void of() {
        GlobeCorner g = promise(3);
        g.child(5, 7);
        due("of(0, 0)", g.of(0, 0), 5);
        due("of(0, 1)", g.of(0, 1), 7);
        due("of(0, 2)", g.of(0, 2), -5);
        due("of(0, 3)", g.of(0, 3), 0);
        g.point(0, 11);
        g.pass(7);
        due("of(0, 2)", g.of(0, 2), 11);
        due("of(0, 3)", g.of(0, 3), 7);
        g.point(0, -1);
        g.pass(7);
        due("of(0, 3)", g.of(0, 3), 7);
        for (int what : new int[] {-1, 4, 9, 22, LOW, HIGH}) due("of(0, " + what + ")", g.of(0, what), -10001);
        for (int who : new int[] {-1, 1, 6, LOW, HIGH}) due("of(" + who + ", 0)", g.of(who, 0), -10001);
    }

    private static void careOfKinds() {
        promise = 3;
        GlobeCorner g = withKinds(0, 1, 2, 3, 4, 5);
        int[] care = {4, 9, 2, 4, 9, 2};
        for (int c = 0; c < 6; c++) due("of(" + c + ", 10)", g.of(c, 10), care[c]);
        g.point(4, 3);
        due("of(4, 13), alone", g.of(4, 13), 9);
        g.point(0, 3);
        due("of(4, 13), with another", g.of(4, 13), 18);
        due("of(4, 14)", g.of(4, 14), 9);
        g.point(4, 0);
        due("of(4, 13), the other alone there", g.of(4, 13), 18);
        due("of(1, 13), good", g.of(1, 13), 9);
        g.point(5, 11);
        g.pass(3);
        due("of(3, 10), dreaming", g.of(3, 10), 0);
        due("of(0, 10)", g.of(0, 10), 4);
        due("of(5, 10), stood 3", g.of(5, 10), 2);
        g.pass(2);
        due("of(3, 10)", g.of(3, 10), 4);
        due("of(5, 10), stood 5", g.of(5, 10), 1);
        g.pass(39);
        due("of(5, 10), stood 44", g.of(5, 10), -6);
        g.pass(1);
        due("of(5, 10), stood 45", g.of(5, 10), -7);
        g.pass(60);
        due("of(5, 10), stood 105", g.of(5, 10), -7);

        GlobeCorner t = withKinds(6);
        t.row(0, 0, 9);
        t.row(0, 3, 2);
        due("of(0, 10), told", t.of(0, 10), 13);
        due("of(0, 11), told", t.of(0, 11), 4);
        due("of(0, 18), told", t.of(0, 18), 13);
        due("of(0, 21), told", t.of(0, 21), 6);
        t.pass(3);
        due("of(0, 10), told and dreaming", t.of(0, 10), 9);
        due("of(0, 11), told and dreaming", t.of(0, 11), 0);
    }

    private static void careGoesByTheSchool() {
        promise = 3;
        GlobeCorner g = withKinds(0, 1, 2, 4);
        due("school", school(g, "less 11 x=0;more 3 p=0&x=1;more 4 p=0|x=1;less 2 !(v=5)"), 0);
        due("of(0, 10)", g.of(0, 10), -3);
        due("of(1, 10), good", g.of(1, 10), -2);
        due("of(2, 10), bad: cut toward 0", g.of(2, 10), -3);
        due("of(3, 10), monitor", g.of(3, 10), -2);
        g.point(0, 0);
        due("of(3, 10), monitor with another", g.of(3, 10), -4);
        due("of(0, 11)", g.of(0, 11), 11);
        due("of(0, 12)", g.of(0, 12), 8);
        due("of(1, 11)", g.of(1, 11), 13);
        due("of(1, 12)", g.of(1, 12), 9);
        due("school", school(g, "more 10 n=9&n<10&n>8;more 1 h=3;more 2 k=1;more 20 p=2;more 40 v>5"), 1);
        g.need(2, 89);
        g.need(3, 90);
        due("of(0, 12)", g.of(0, 12), 4);
        due("of(0, 13)", g.of(0, 13), 14);
        due("of(1, 12)", g.of(1, 12), 11);
        due("of(2, 12)", g.of(2, 12), 12);
        g.pass(13);
        due("of(0, 21), hour 13", g.of(0, 21), 5);
        // & binds closer than |, ! closer than both.
        due("school", school(g, "more 1 x=0|x=1&p=1;more 10 (x=0|x=1)&p=1;more 20 !x=0&p=0"), 2);
        due("of(0, 10)", g.of(0, 10), 5);
        due("of(0, 11)", g.of(0, 11), 24);
        due("of(1, 10)", g.of(1, 10), 20);
        due("of(1, 11)", g.of(1, 11), 20);
        due("of(1, 12)", g.of(1, 12), 9);
    }

    /** Whether a condition holds of child 0 (kind 0, v 5) and place 3, which needs 20, at hour 0. */
    private static void holds(String condition, boolean want) {
        GlobeCorner g = withKinds(0);
        due("school", school(g, "more 7 " + condition), 0);
        due("of(0, 13) by " + condition, g.of(0, 13), want ? 11 : 4);
    }

    private static void conditions() {
        promise = 3;
        String yes = "x=3";
        String no = "x<3";
        holds(yes, true);
        holds(no, false);
        holds("x>3", false);
        holds("x<4", true);
        holds("x>2", true);
        holds("x=03", true);
        holds("v=5&n=2&h=0&k=0&p=0", true);
        holds("v=5&n=2&h=0&k=0&p=1", false);
        holds("v>98|n>98|h>98|k>98|p>98|x>98", false);
        holds("v<99&n<99&h<99&k<99&p<99&x<99", true);
        for (int bits = 0; bits < 16; bits++) {
            boolean a = (bits & 1) > 0, b = (bits & 2) > 0, c = (bits & 4) > 0, d = (bits & 8) > 0;
            String p = a ? yes : no, q = b ? yes : no, r = c ? yes : no, s = d ? yes : no;
            holds(p + "|" + q + "&" + r + "|" + s, a || b && c || d);
            holds(p + "&" + q + "|" + r + "&" + s, a && b || c && d);
            holds("(" + p + "|" + q + ")&(" + r + "|" + s + ")", (a || b) && (c || d));
            holds(p + "&(" + q + "|" + r + "&" + s + ")", a && (b || c && d));
            holds(p + "|(" + q + "&(" + r + "|" + s + "))", a || b && (c || d));
            holds("!" + p + "&" + q + "|!(" + r + "&!" + s + ")", !a && b || !(c && !d));
            holds("!!" + p + "&!(" + q + "|!(" + r + "|" + s + "))", a && !(b || !(c || d)));
            holds(p + "|" + q + "&(" + r + "|!(!" + s + "&" + p + "))", a || b && (c || !(!d && a)));
        }
    }

    private static void spot() {
        GlobeCorner g = promise(4);
        g.child(1, 9);
        g.point(0, 2);
        due("spot(2, 1)", g.spot(2, 1), 2);
        due("spot(3, 1)", g.spot(3, 1), -5);
        g.need(3, 0);
        due("spot(3, 1)", g.spot(3, 1), 0);
        due("spot(2, 2)", g.spot(2, 2), 100);
        due("spot(2, 3)", g.spot(2, 3), 0);
        g.see(2, 2, 0);
        due("spot(2, 2), up to 22", g.spot(2, 2), 23);
        due("spot(2, 3)", g.spot(2, 3), 0);
        g.see(2, 1, 7);
        due("spot(2, 2), 18 alone", g.spot(2, 2), 1);
        due("spot(2, 3)", g.spot(2, 3), 18);
        g.see(5, 0, 21);
        due("spot(2, 2), place 5 is otherwise", g.spot(2, 2), 0);
        due("spot(2, 3)", g.spot(2, 3), -5);
        due("spot(5, 2), place 2 is otherwise", g.spot(5, 2), 0);
        g.need(2, 18);
        due("spot(5, 2)", g.spot(5, 2), 1);
        due("spot(5, 3)", g.spot(5, 3), 21);
        for (int what : new int[] {-1, 4, LOW, HIGH}) due("spot(0, " + what + ")", g.spot(0, what), -1);
        for (int p : new int[] {-1, 12, LOW, HIGH}) due("spot(" + p + ", 0)", g.spot(p, 0), -1);

        GlobeCorner slow = promise(4);
        slow.child(0, 0);
        slow.point(0, 0);
        school(slow, "grow 3");
        slow.need(0, 60);
        due("spot(0, 1), just by 60", slow.spot(0, 1), 60);
        slow.need(0, 61);
        due("spot(0, 1), by 61", slow.spot(0, 1), -5);
        slow.see(3, 12, 99);
        due("spot(3, 2), 63 and more", slow.spot(3, 2), 37);
        due("spot(3, 3)", slow.spot(3, 3), 63);
    }

    private static void point() {
        GlobeCorner g = promise(5);
        g.child(0, 0);
        due("point(0, 11)", g.point(0, 11), -5);
        due("point(0, 0)", g.point(0, 0), 11);
        due("point(0, 12)", g.point(0, 12), -1);
        due("point(0, -2)", g.point(0, -2), -1);
        due("point(1, 0)", g.point(1, 0), -1);
        due("point(-1, 0)", g.point(-1, 0), -1);
        due("point(0, HIGH)", g.point(0, HIGH), -1);
        due("point(LOW, -1)", g.point(LOW, -1), -1);
        due("point(0, -1)", g.point(0, -1), 0);
        due("point(0, -1)", g.point(0, -1), -5);
    }

    private static void need() {
        GlobeCorner g = promise(6);
        due("need(0, 99)", g.need(0, 99), 20);
        due("need(0, 0)", g.need(0, 0), 99);
        due("need(0, 100)", g.need(0, 100), -2);
        due("need(0, -1)", g.need(0, -1), -2);
        due("need(12, 100)", g.need(12, 100), -1);
        due("need(-1, 0)", g.need(-1, 0), -1);
        due("need(11, 7)", g.need(11, 7), 20);
        due("spot(0, 0)", g.spot(0, 0), 0);
        due("spot(11, 0)", g.spot(11, 0), 7);
        due("spot(1, 0)", g.spot(1, 0), 20);
    }

    private static void spin() {
        GlobeCorner g = promise(7);
        due("spin(0)", g.spin(0), 0);
        for (int i = 0; i < 3; i++) g.child(0, 0);
        g.point(0, 11);
        g.point(2, 4);
        due("spin(12)", g.spin(12), -2);
        due("spin(-1)", g.spin(-1), -2);
        due("spin(1)", g.spin(1), 2);
        due("of(0, 2)", g.of(0, 2), 0);
        due("of(1, 2)", g.of(1, 2), -5);
        due("of(2, 2)", g.of(2, 2), 5);
        due("spin(11)", g.spin(11), 2);
        due("of(0, 2)", g.of(0, 2), 11);
        due("of(2, 2)", g.of(2, 2), 4);
    }

    private static void bell() {
        GlobeCorner g = promise(8);
        for (int i = 0; i < 4; i++) g.child(0, 0);
        g.point(0, 0);
        g.point(1, 0);
        g.point(3, 11);
        due("bell()", g.bell(), 3);
        for (int i = 0; i < 4; i++) due("of(" + i + ", 2)", g.of(i, 2), -5);
        due("bell()", g.bell(), 0);
    }

    private static void row() {
        GlobeCorner g = promise(9);
        g.child(6, 0);
        g.child(3, 0);
        due("row(0, 0, 9)", g.row(0, 0, 9), 0);
        due("row(0, 0, 4)", g.row(0, 0, 4), 9);
        due("row(0, 3, 1)", g.row(0, 3, 1), 0);
        due("row(0, 4, 10)", g.row(0, 4, 10), -1);
        due("row(0, -1, 0)", g.row(0, -1, 0), -1);
        due("row(2, 0, 10)", g.row(2, 0, 10), -1);
        due("row(-1, 0, 0)", g.row(-1, 0, 0), -1);
        due("row(0, 0, 10)", g.row(0, 0, 10), -2);
        due("row(0, 0, -1)", g.row(0, 0, -1), -2);
        due("row(1, 0, 10)", g.row(1, 0, 10), -2);
        due("row(1, 0, 9)", g.row(1, 0, 9), -3);
        due("row(0, 0, 0)", g.row(0, 0, 0), 4);
        due("row(0, 3, 0)", g.row(0, 3, 0), 1);
    }

    private static void feed() {
        GlobeCorner g = promise(10);
        due("feed(-1)", g.feed(-1), -2);
        due("feed(128)", g.feed(128), -2);
        due("feed(0)", g.feed(0), 1);
        due("feed(127)", g.feed(127), 2);
        for (int i = 3; i <= 100; i++) due("feed(32)", g.feed(32), i);
        due("feed(32), full", g.feed(32), -4);
        due("feed(128), full", g.feed(128), -2);
        due("count(5)", g.count(5), 100);
        due("school()", g.school(), -10);
        due("feed(32), empty then", g.feed(32), 1);
    }

    private static void school() {
        GlobeCorner g = promise(11);
        g.child(0, 0);
        due("school 0", school(g, "grow 5;grow 07"), 0);
        due("told(1), the last", g.told(1), 7);
        due("count(5)", g.count(5), 0);
        due("school 1", school(g, "more 99 p=0"), 1);
        due("told(1), 2 without", g.told(1), 2);
        due("of(0, 10)", g.of(0, 10), 103);
        due("school, faulty", school(g, "less 1 p=0;"), -21);
        due("of(0, 10), as held", g.of(0, 10), 103);
        due("count(5)", g.count(5), 0);
        due("count(1)", g.count(1), 2);
        for (int i = 2; i < 6; i++) due("school " + i, school(g, "grow " + i), i);
        due("school, full", school(g, "grow 9"), -4);
        due("count(5), stays", g.count(5), 6);
        due("feed", g.feed(32), 7);
        due("school, full and faulty", g.school(), -4);
        due("told(1)", g.told(1), 5);

        GlobeCorner twice = promise(11);
        twice.child(0, 0);
        due("school, faulty behind two clauses", school(twice, "more 50 p=0;grow 9;more 7 p=0&p<1;"), -10 - 34);
        due("of(0, 10), no school", twice.of(0, 10), 4);
        due("told(1), no school", twice.told(1), 2);
        due("school", school(twice, "more 1 p=0"), 0);
        due("of(0, 10), nothing of the faulty one", twice.of(0, 10), 5);
        due("told(1), nothing of the faulty one", twice.told(1), 2);

        String early = "more 1 " + "p=0&".repeat(20);
        for (int i = 0; i < 4; i++) due("school, faulty again and again", school(twice, early), -10 - 87);
        due("school", school(twice, "more 1 p=9"), 1);
        due("of(0, 10), nothing of the faulty ones", twice.of(0, 10), 4);

        GlobeCorner ten = promise(11);
        String clause = "grow 1";
        StringBuilder text = new StringBuilder(clause);
        for (int i = 1; i < 10; i++) text.append(';').append(clause);
        due("school of 10 clauses", school(ten, text.toString()), 0);
        due("school of 11 clauses", school(ten, text + ";" + clause), -10 - 69);
        due("school with ; at the end", school(ten, text + ";"), -10 - 69);

        GlobeCorner full = promise(11);
        full.child(0, 0);
        StringBuilder whole = new StringBuilder("more 11 x=0");
        for (int i = 0; i < 22; i++) whole.append("|x=").append(i % 10);
        due("length", whole.length(), 99);
        due("school of 99 bytes", school(full, whole.toString()), 0);
        due("of(0, 11)", full.of(0, 11), 15);
        due("of(0, 21)", full.of(0, 21), 4);
        due("school of 100 bytes that ends too early", school(full, whole + "&"), -110);
        due("school of 100 bytes, the last x=11", school(full, whole + "1"), 1);
        due("of(0, 11)", full.of(0, 11), 15);
        due("of(0, 21)", full.of(0, 21), 15);
    }

    /** A school can begin with what is ahead, but not with the next byte, or not end there. */
    private static void faultBehind(String ahead, String fault) {
        GlobeCorner g = new GlobeCorner();
        due("school \"" + ahead + fault + "\"", school(g, ahead + fault), -10 - ahead.length());
        due("count(1)", g.count(1), 0);
        due("count(5)", g.count(5), 0);
    }

    private static void faults() {
        promise = 11;
        for (String ended : new String[] {"", "mo", "more", "more ", "more 1", "more 1 ", "more 1 p", "more 1 p=",
            "more 1 p=1&", "more 1 p=1|", "more 1 !", "more 1 (", "more 1 (p=1", "more 1 (p=1&(p=1)", "less 12", "gro",
            "grow", "grow ", "grow 1;", "more 1 ((((p=1)&(p=1", "more 1 !!!!"}) {
            faultBehind(ended, "");
        }
        faultBehind("", " ");
        faultBehind("", "M");
        faultBehind("", ";grow 1");
        faultBehind("mo", "le 1 p=1");
        faultBehind("less", "s 1 p=1");
        faultBehind("less ", " 1 p=1");
        faultBehind("more ", "x");
        faultBehind("more", "5 p=1");
        faultBehind("g", "5");
        faultBehind("", "5 p=1");
        faultBehind("more 1", ";");
        faultBehind("more 12", "3 p=1");
        faultBehind("more 1 ", " p=1");
        faultBehind("more 1 ", ";");
        faultBehind("more 1 ", "q=1");
        faultBehind("more 1 ", "P=1");
        faultBehind("more 1 ", "1=p");
        faultBehind("more 1 p", "!=1");
        faultBehind("more 1 p=", "=1");
        faultBehind("more 1 p=", "-1");
        faultBehind("more 1 p=12", "3");
        faultBehind("more 1 p=1", " ");
        faultBehind("more 1 p=1", ")");
        faultBehind("more 1 p=1", "!p=1");
        faultBehind("more 1 p=1&", "&p=1");
        faultBehind("more 1 p=1|", ")");
        faultBehind("more 1 (", ")");
        faultBehind("more 1 (p=1", ";grow 1");
        faultBehind("more 1 (p=1)", ")");
        faultBehind("more 1 !!!!", "!p=1");
        faultBehind("more 1 ((((", "(p=1)))))");
        faultBehind("more 1 !(!(", "!p=1))");
        faultBehind("more 1 !(!(p=1|", "(p=1)))");
        faultBehind("more 1 (((p=1)&((", "(p=1");
        faultBehind("grow 1;more 2 !!!!p=1|!p=1&!!!!", "!p=1");
        faultBehind("grow ", "a");
        faultBehind("grow 10", "0");
        faultBehind("grow 1", " ");
        faultBehind("grow 1", " p=1");
        faultBehind("grow 1;", ";");
        faultBehind("grow 1", "more 1 p=1");
        due("four deep", school(new GlobeCorner(), "more 1 !(!(p=1))&!!!!p=1|((((p=1))))&(!(p=1|!p=2)&p=3)"), 0);
    }

    private static void told() {
        GlobeCorner g = promise(12);
        g.child(0, 0);
        g.need(3, 0);
        g.need(4, 99);
        due("told(2)", g.told(2), 299);
        due("told(3)", g.told(3), 1);
        g.need(0, 0);
        g.need(11, 0);
        due("told(3)", g.told(3), 3);
        g.need(0, 20);
        g.need(11, 20);
        school(g, "grow 0");
        due("told(1)", g.told(1), 0);
        g.pass(5);
        due("told(0)", g.told(0), 5);
        due("told(2)", g.told(2), 299);
        for (int what : new int[] {-1, 5, 9, 11, 16, LOW, HIGH}) due("told(" + what + ")", g.told(what), -1);
    }

    private static void posts() {
        GlobeCorner g = promise(12);
        due("told(4), none", g.told(4), 0);
        g.child(0, 0);
        g.child(0, 0);
        g.child(4, 9);
        due("told(4), all alike", g.told(4), 21);
        due("told(10)", g.told(10), 0);
        due("told(11)", g.told(11), 1);
        due("told(12)", g.told(12), 2);
        g.point(0, 2);
        due("told(4), as if no other had a finger there", g.told(4), 21);
        // Child 0 would like 5 most, but child 1 loses more without it.
        school(g, "more 10 x=5&p<2;more 8 p=0&x=7;less 50 p=2&x<9;more 96 p=2&x=11");
        due("told(4), 99 at most", g.told(4), 14 + 12 + 99);
        due("told(10)", g.told(10), 7);
        due("told(11)", g.told(11), 5);
        due("told(12)", g.told(12), 11);
        // As 0 if below: then every place is alike to child 2, and the first rows count.
        school(g, "less 50 p=2;more 1 p=0&x=0;more 1 p=1&x=0");
        due("told(4), 0 if below", g.told(4), 9);
        due("told(10)", g.told(10), 0);
        due("told(11)", g.told(11), 1);
        due("told(12)", g.told(12), 2);

        school(g, "more 5 x=3;more 3 p=1&x>9");
        due("told(11), asked first", g.told(11), 10);
        due("told(10), as child 2 does as well at 3", g.told(10), 0);
        due("told(12)", g.told(12), 3);

        GlobeCorner six = withKinds(0, 0, 0, 0, 0, 0);
        school(six, "more 1 x=11&p=0;more 1 x=10;more 1 p=5&x=0;more 1 x=9&p=5");
        due("told(4)", six.told(4), 24 + 3);
        int[] places = {11, 0, 1, 2, 10, 9};
        for (int c = 0; c < 6; c++) due("told(1" + c + ")", six.told(10 + c), places[c]);

        GlobeCorner fewer = withKinds(0, 0);
        fewer.image();
        for (int c = 2; c < 6; c++) fewer.child(1, 9);
        due("told(4), of six", fewer.told(4), 8 + 4 * 13);
        fewer.undo();
        due("told(4), of two again", fewer.told(4), 8);
        due("told(11)", fewer.told(11), 1);
        due("told(12)", fewer.told(12), -1);
    }

    private static void pass() {
        GlobeCorner g = promise(13);
        g.child(1, 3);
        g.child(2, 0);
        g.point(0, 0);
        g.point(1, 0);
        due("pass(0)", g.pass(0), 0);
        due("pass(1)", g.pass(1), 1);
        due("spot(0, 0)", g.spot(0, 0), 20 + 2 - 7 - 2);
        due("spot(1, 0)", g.spot(1, 0), 22);
        due("of(0, 3)", g.of(0, 3), 1);
        due("pass(61)", g.pass(61), -2);
        due("pass(-1)", g.pass(-1), -2);
        due("pass(60)", g.pass(60), 61);
        due("spot(0, 0), 0 at least", g.spot(0, 0), 0);
        due("spot(1, 0), 99 at most", g.spot(1, 0), 99);
        due("of(1, 3)", g.of(1, 3), 61);
        for (int i = 0; i < 165; i++) g.pass(60);
        due("told(0)", g.told(0), 9961);
        due("pass(39)", g.pass(39), -3);
        due("pass(61)", g.pass(61), -2);
        due("pass(38)", g.pass(38), 9999);
        due("pass(1)", g.pass(1), -3);
        due("pass(0)", g.pass(0), 9999);
        due("of(0, 3)", g.of(0, 3), 9999);

        // All goes by how it is ahead of the hour: a care below 0 counts as 0 beside another's.
        GlobeCorner sad = promise(13);
        sad.child(0, 0);
        sad.child(0, 0);
        school(sad, "less 20 p=0;more 2 p=1&n=2&h=0");
        sad.point(0, 4);
        sad.point(1, 4);
        sad.pass(1);
        due("spot(4, 0)", sad.spot(4, 0), 16);
        sad.pass(1);
        due("spot(4, 0)", sad.spot(4, 0), 14);
    }

    private static void passWithAMonitor() {
        promise = 13;
        GlobeCorner g = withKinds(0, 4, 3);
        g.point(1, 7);
        g.pass(1);
        due("spot(7, 0), alone", g.spot(7, 0), 20 + 2 - 9);
        g.point(0, 7);
        g.need(7, 40);
        g.pass(1);
        due("spot(7, 0), with another", g.spot(7, 0), 40 + 2 - 4 - 18);
        g.point(0, 8);
        g.point(2, 7);
        g.need(7, 40);
        g.pass(2);
        due("spot(7, 0), with a dreamy one who dreams then", g.spot(7, 0), 40 + 4 - 4 - 36);
    }

    private static void on() {
        GlobeCorner g = promise(14);
        g.child(1, 8);
        g.point(0, 6);
        due("on(0, 0)", g.on(0, 0), 240);
        due("on(1, 0)", g.on(1, 0), 252);
        due("on(1, 16)", g.on(1, 16), 10);
        due("on(2, 0)", g.on(2, 0), 11 * 24);
        due("on(2, 1)", g.on(2, 1), 1);
        due("on(1, 1)", g.on(1, 1), 0);
        due("on(60, 10)", g.on(60, 10), 99);
        due("on(60, 21)", g.on(60, 21), 99);
        due("on(60, 0)", g.on(60, 0), 11 * 99);
        due("on(61, 0)", g.on(61, 0), -2);
        due("on(-1, 10)", g.on(-1, 10), -2);
        for (int what : new int[] {-1, 2, 9, 22, LOW, HIGH}) due("on(61, " + what + ")", g.on(61, what), -1);

        GlobeCorner dream = promise(14);
        dream.child(3, 0);
        dream.child(5, 0);
        dream.point(0, 0);
        dream.point(1, 1);
        due("on(3, 10)", dream.on(3, 10), 14);
        due("on(4, 10), dreaming in the fourth", dream.on(4, 10), 16);
        due("on(5, 11)", dream.on(5, 11), 20);
        due("on(7, 11), sulky from the sixth on", dream.on(7, 11), 22);
    }

    private static void crowd() {
        GlobeCorner g = promise(15);
        g.child(0, 0);
        g.child(1, 6);
        g.child(4, 1);
        g.child(2, 0);
        // By one hour less 2: 4 - 2, 10 - 2, 5 - 2, 2 - 2; the monitor is twice as good with another.
        g.need(0, 8);
        due("crowd(0, 1)", g.crowd(0, 1), 2);
        g.need(0, 10);
        due("crowd(0, 1), of several the least", g.crowd(0, 1), 3);
        g.need(0, 18);
        due("crowd(0, 1)", g.crowd(0, 1), 6);
        g.need(0, 25);
        due("crowd(0, 1)", g.crowd(0, 1), -5);
        g.need(0, 24);
        due("crowd(0, 1), all", g.crowd(0, 1), 15);
        g.need(0, 22);
        due("crowd(0, 1)", g.crowd(0, 1), 7);
        due("crowd(0, 12)", g.crowd(0, 12), 1);
        due("crowd(0, 0)", g.crowd(0, 0), -2);
        due("crowd(0, 13)", g.crowd(0, 13), -2);
        due("crowd(12, 0)", g.crowd(12, 0), -1);
        due("crowd(-1, 1)", g.crowd(-1, 1), -1);
        g.child(1, 9);
        g.need(0, 11);
        due("crowd(0, 1), one is fewer than two with less bits", g.crowd(0, 1), 16);
        school(g, "grow 0");
        g.need(0, 0);
        due("crowd(0, 1), nobody", g.crowd(0, 1), 0);
        g.need(0, 1);
        due("crowd(0, 1), the least bits", g.crowd(0, 1), 1);
    }

    private static void turn() {
        GlobeCorner g = promise(16);
        due("turn(1), nobody", g.turn(1), 0);
        g.child(1, 9);
        for (int p = 0; p < 12; p++) g.need(p, 2);
        g.need(3, 50);
        g.need(10, 50);
        g.point(0, 11);
        due("turn(1)", g.turn(1), 4);
        g.point(0, 5);
        due("turn(1)", g.turn(1), 5);
        due("turn(12)", g.turn(12), 5);
        g.point(0, 3);
        due("turn(1)", g.turn(1), 0);
        due("turn(0)", g.turn(0), -2);
        due("turn(13)", g.turn(13), -2);
        due("of(0, 2)", g.of(0, 2), 3);
    }

    private static void see() {
        GlobeCorner g = promise(17);
        due("see(12, 13, 0)", g.see(12, 13, 0), -1);
        due("see(-2, 0, 0)", g.see(-2, 0, 0), -1);
        due("see(0, 13, 0)", g.see(0, 13, 0), -2);
        due("see(0, -1, 0)", g.see(0, -1, 0), -2);
        due("see(0, 0, 100)", g.see(0, 0, 100), -2);
        due("see(0, 0, -1)", g.see(0, 0, -1), -2);
        for (int i = 1; i <= 5; i++) due("see(11, 12, 99)", g.see(11, 12, 99), i);
        due("see(11, 12, 99)", g.see(11, 12, 99), -4);
        due("see(12, 0, 0)", g.see(12, 0, 0), -1);
        due("see(0, 13, 0)", g.see(0, 13, 0), -2);
        due("count(2)", g.count(2), 5);
        due("see(-1, 99, 999)", g.see(-1, 99, 999), 0);
        due("count(2)", g.count(2), 0);
        due("see(0, 0, 0)", g.see(0, 0, 0), 1);
        // From now on is from when it is asked.
        g.see(-1, 0, 0);
        g.see(0, 2, 24);
        due("spot(0, 3)", g.spot(0, 3), 20);
        g.pass(1);
        due("spot(0, 3)", g.spot(0, 3), 20);
    }

    private static void can() {
        GlobeCorner g = promise(18);
        g.child(1, 2);
        g.child(0, 2);
        g.point(0, 0);
        g.point(1, 1);
        due("can(0, 0)", g.can(0, 0), 10);
        due("can(0, 1)", g.can(0, 1), 0);
        g.see(0, 1, 13);
        due("can(0, 0)", g.can(0, 0), 1);
        due("can(0, 1)", g.can(0, 1), 5);
        due("can(1, 0)", g.can(1, 0), 0);
        due("can(1, 1)", g.can(1, 1), -5);
        g.see(1, 0, 20);
        due("can(0, 0)", g.can(0, 0), 1);
        g.see(1, 0, 21);
        due("can(0, 0)", g.can(0, 0), 0);
        due("can(0, 1)", g.can(0, 1), -5);
        g.see(-1, 0, 0);
        g.see(0, 4, 0);
        due("can(0, 0), 3 to 9", g.can(0, 0), 7);
        due("can(0, 1)", g.can(0, 1), 3);
        due("of(0, 1)", g.of(0, 1), 2);
        school(g, "more 9 v>6");
        g.see(-1, 0, 0);
        g.see(1, 1, 9);
        due("can(1, 0), by the school", g.can(1, 0), 3);
        due("can(1, 1)", g.can(1, 1), 7);
        for (int what : new int[] {-1, 2, LOW, HIGH}) due("can(0, " + what + ")", g.can(0, what), -1);
        for (int who : new int[] {-1, 2, LOW, HIGH}) due("can(" + who + ", 0)", g.can(who, 0), -1);
    }

    private static void odds() {
        GlobeCorner g = promise(19);
        g.child(1, 9);
        g.child(4, 2);
        g.need(0, 11);
        due("odds(0, 0, 1, 0)", g.odds(0, 0, 1, 0), 1);
        due("odds(0, 0, 1, 1)", g.odds(0, 0, 1, 1), 12);
        due("odds(0, 0, 0, 0)", g.odds(0, 0, 0, 0), 0);
        due("odds(0, 0, 0, 1)", g.odds(0, 0, 0, 1), 1);
        g.need(5, 0);
        due("odds(1, 5, 0, 0)", g.odds(1, 5, 0, 0), 1);
        due("odds(1, 5, 0, 1)", g.odds(1, 5, 0, 1), 1);
        // The other alone sees to 6: with the first one there as well it sees to twice that.
        g.point(1, 2);
        g.point(0, 2);
        g.need(2, 9);
        due("odds(0, 2, 20, 1)", g.odds(0, 2, 20, 1), 1);
        g.need(2, 6);
        due("odds(0, 2, 1, 0)", g.odds(0, 2, 1, 0), 1);
        due("odds(0, 2, 1, 1)", g.odds(0, 2, 1, 1), 12);
        due("of(0, 2)", g.of(0, 2), 2);
        for (int c : new int[] {-1, 2, LOW, HIGH}) due("odds(" + c + ", 0, 0, 0)", g.odds(c, 0, 0, 0), NO);
        for (int p : new int[] {-1, 12, LOW, HIGH}) due("odds(0, " + p + ", 0, 0)", g.odds(0, p, 0, 0), NO);
        for (int n : new int[] {-1, 21, LOW, HIGH}) due("odds(0, 0, " + n + ", 0)", g.odds(0, 0, n, 0), NO);
        for (int n : new int[] {-1, 2, LOW, HIGH}) due("odds(0, 0, 0, " + n + ")", g.odds(0, 0, 0, n), NO);
    }

    private static void mean() {
        GlobeCorner g = promise(20);
        due("mean(0, 0)", g.mean(0, 0), 20);
        due("mean(0, 1)", g.mean(0, 1), 1);
        due("mean(60, 0)", g.mean(60, 0), 99);
        int[] needs = {21, 22, 23, 24, 26, 27};
        long[] below = {12, 6, 4, 3, 2, 12};
        long[] above = {241, 121, 81, 61, 41, 247};
        for (int i = 0; i < 6; i++) {
            g.need(0, needs[i]);
            due("mean(0, 0) by " + needs[i], g.mean(0, 0), above[i]);
            due("mean(0, 1) by " + needs[i], g.mean(0, 1), below[i]);
        }
        due("mean(1, 0)", g.mean(1, 0), 247 + 24);
        due("mean(1, 1)", g.mean(1, 1), 12);
        for (int p = 0; p < 12; p++) g.need(p, 0);
        due("mean(0, 0)", g.mean(0, 0), 0);
        due("mean(0, 1)", g.mean(0, 1), 1);
        for (int n : new int[] {-1, 61, LOW, HIGH}) due("mean(" + n + ", 0)", g.mean(n, 0), NO);
        for (int n : new int[] {-1, 2, LOW, HIGH}) due("mean(0, " + n + ")", g.mean(0, n), NO);
    }

    private static void plan() {
        GlobeCorner g = promise(21);
        g.child(0, 0);
        due("plan(4, 0)", g.plan(4, 0), -1);
        due("plan(-2, 0)", g.plan(-2, 0), -1);
        due("plan(1, 1)", g.plan(1, 1), -1);
        due("plan(1, -1)", g.plan(1, -1), -1);
        due("plan(3, 12)", g.plan(3, 12), -1);
        due("plan(3, -1)", g.plan(3, -1), -1);
        due("plan(2, 12)", g.plan(2, 12), -2);
        due("plan(2, -1)", g.plan(2, -1), -2);
        due("count(3)", g.count(3), 0);
        due("plan(0, HIGH)", g.plan(0, HIGH), 1);
        due("plan(1, 0)", g.plan(1, 0), 2);
        due("plan(2, 11)", g.plan(2, 11), 3);
        due("plan(3, 11)", g.plan(3, 11), 4);
        for (int i = 5; i <= 10; i++) due("plan(0, LOW)", g.plan(0, LOW), i);
        due("plan(0, 0)", g.plan(0, 0), -4);
        due("plan(1, 0)", g.plan(1, 0), -4);
        due("plan(2, 0)", g.plan(2, 0), -4);
        due("plan(3, 0)", g.plan(3, 0), -4);
        due("plan(1, 1)", g.plan(1, 1), -1);
        due("plan(2, 12)", g.plan(2, 12), -2);
        due("count(3)", g.count(3), 10);
        due("plan(-1, HIGH)", g.plan(-1, HIGH), 0);
        due("count(3)", g.count(3), 0);
    }

    private static void ends() {
        GlobeCorner g = promise(22);
        g.child(1, 6);
        g.child(0, 0);
        g.point(0, 11);
        g.point(1, 5);
        due("ends(0), no plan", g.ends(0), 240);
        g.plan(0, 0);
        due("ends(0)", g.ends(0), 240 + 24 - 14);
        due("ends(1)", g.ends(1), 2);
        g.plan(1, 1);
        g.plan(0, 0);
        due("ends(0)", g.ends(0), 250 + 24 - 10);
        due("ends(1)", g.ends(1), 3);
        g.need(0, 5);
        g.plan(2, 1);
        g.plan(0, 0);
        due("ends(0), the first one is at place 0", g.ends(0), 249 + 24 - 10);
        due("ends(1)", g.ends(1), 4);
        g.plan(3, 0);
        due("ends(0)", g.ends(0), 262);
        g.plan(3, 7);
        due("ends(0)", g.ends(0), 262 - 26);
        due("ends(2)", g.ends(2), -1);
        due("ends(-1)", g.ends(-1), -1);
        due("told(2)", g.told(2), 225);
        due("of(1, 2)", g.of(1, 2), 5);
        due("of(0, 3)", g.of(0, 3), 0);
    }

    private static void book() {
        GlobeCorner g = promise(23);
        due("book(12, 100)", g.book(12, 100), -1);
        due("book(-2, 0)", g.book(-2, 0), -1);
        due("book(0, 100)", g.book(0, 100), -2);
        due("book(0, -1)", g.book(0, -1), -2);
        for (int i = 1; i <= 8; i++) due("book(11, 99)", g.book(11, 99), i);
        due("book(11, 99)", g.book(11, 99), -4);
        due("book(12, 0)", g.book(12, 0), -1);
        due("book(0, 100)", g.book(0, 100), -2);
        due("count(4)", g.count(4), 8);
        due("book(-1, 999)", g.book(-1, 999), 0);
        due("count(4)", g.count(4), 0);
    }

    private static void looked() {
        GlobeCorner g = promise(24);
        due("looked()", g.looked(), -5);
        g.book(11, 20);
        g.book(0, 20);
        due("looked()", g.looked(), -5);
        g.book(1, 21);
        g.book(0, 19);
        due("looked()", g.looked(), 2);
        g.need(1, 21);
        due("looked()", g.looked(), 3);
        g.need(0, 19);
        due("looked()", g.looked(), 1);
        g.need(11, 0);
        due("looked()", g.looked(), 0);
    }

    private static void judge() {
        GlobeCorner g = promise(25);
        due("judge(-1, 0)", g.judge(-1, 0), -1);
        due("judge(6, 0)", g.judge(6, 0), -1);
        due("judge(0, 0), nothing", g.judge(0, 0), 100);
        for (int sort = 1; sort <= 4; sort++) {
            g.tape(sort, sort, 20);
            due("judge(" + sort + ", 0)", g.judge(sort, 0), -12);
            due("judge(" + sort + ", -1)", g.judge(sort, -1), -12);
        }
        g.tape(0, 0, 14);
        due("judge(0, 0)", g.judge(0, 0), 0);
        for (int i = 1; i < 13; i++) g.item(0, i, 20);
        due("judge(0, 1)", g.judge(0, 1), -5);
        due("judge(0, 2), the last is 0", g.judge(0, 2), 11);
        due("judge(0, 3), ends", g.judge(0, 3), 10);
        g.item(0, 13, 20);
        due("judge(0, 2)", g.judge(0, 2), -5);
        due("judge(0, 3), ends", g.judge(0, 3), 111);
        due("judge(0, 13)", g.judge(0, 13), 101);
        due("judge(0, 14)", g.judge(0, 14), 100);
        due("judge(0, 15)", g.judge(0, 15), 100);
        due("judge(0, HIGH)", g.judge(0, HIGH), 100);
        due("judge(0, -1)", g.judge(0, -1), 100);
        due("judge(0, LOW)", g.judge(0, LOW), 100);
        g.need(5, 77);
        due("judge(0, 2)", g.judge(0, 2), 5);
        due("judge(0, 10), ends ahead", g.judge(0, 10), 104);
        due("judge(0, 8)", g.judge(0, 8), 5);
    }

    private static void imageAndUndo() {
        GlobeCorner g = promise(26);
        g.child(6, 3);
        g.child(5, 1);
        g.point(0, 4);
        g.row(0, 2, 7);
        g.need(9, 33);
        g.pass(6);
        school(g, "more 1 p=0");
        g.see(0, 1, 2);
        g.plan(0, 0);
        g.book(3, 3);
        due("image()", g.image(), 2);
        promise = 27;
        for (int round = 0; round < 2; round++) {
            g.bell();
            g.point(1, 8);
            g.row(0, 2, 1);
            g.row(0, 0, 5);
            g.need(9, 1);
            g.child(0, 9);
            g.pass(10);
            due("school", school(g, "grow " + (round + 4)), round + 1);
            g.see(1, 1, 2);
            g.plan(1, 2);
            g.book(-1, 0);
            for (char c : "grow".toCharArray()) g.feed(c);
            g.act(0, 1, 1);
            g.tape(0, 0, 3);
            due("undo()", g.undo(), 2);
            due("told(0)", g.told(0), 6);
            due("told(1)", g.told(1), 2);
            due("of(0, 12)", g.of(0, 12), 5 + 7);
            due("of(0, 10)", g.of(0, 10), 5);
            due("of(0, 2)", g.of(0, 2), 4);
            due("of(0, 3)", g.of(0, 3), 6);
            due("of(1, 2)", g.of(1, 2), -5);
            due("of(1, 3)", g.of(1, 3), 0);
            due("of(2, 0)", g.of(2, 0), -10001);
            due("spot(9, 0)", g.spot(9, 0), 33 + 12);
            due("count(0)", g.count(0), 2);
            due("count(1), schools stay", g.count(1), round + 2);
            due("count(2)", g.count(2), 1);
            due("count(3)", g.count(3), 1);
            due("count(4)", g.count(4), 1);
            due("count(5), the text stays", g.count(5), 4);
            due("count(6), the trace stays", g.count(6), 5);
            due("read(0, 2), tapes stay", g.read(0, 2), 0);
            due("looked()", g.looked(), 0);
            g.school();
        }
        rowsOfTheImage();
        nothingIsLeftOfTheUndone();
        sixOfThem();

        GlobeCorner none = promise(27);
        due("undo()", none.undo(), -3);
        promise = 26;
        due("image()", none.image(), 0);
        school(none, "grow 9");
        none.child(0, 0);
        promise = 27;
        due("undo()", none.undo(), 0);
        due("told(1), no school", none.told(1), 2);
        due("count(0)", none.count(0), 0);
        due("undo()", none.undo(), 0);
        due("school", school(none, "grow 8"), 1);
        due("told(1), the newest", none.told(1), 8);
        none.image();
        school(none, "grow 7");
        none.undo();
        due("told(1), by the newest image", none.told(1), 8);
    }

    private static void rowsOfTheImage() {
        GlobeCorner g = promise(27);
        g.child(0, 0);
        g.point(0, 0);
        g.see(0, 2, 16);
        g.book(0, 20);
        g.book(1, 20);
        g.plan(3, 5);
        g.plan(2, 1);
        g.plan(0, 0);
        int ends = g.ends(0);
        g.image();
        g.see(-1, 0, 0);
        g.see(1, 1, 1);
        g.book(-1, 0);
        g.book(3, 5);
        g.book(4, 9);
        g.plan(-1, 0);
        g.plan(1, 0);
        g.plan(3, 6);
        g.plan(3, 8);
        g.undo();
        due("spot(0, 2)", g.spot(0, 2), 1);
        due("spot(0, 3)", g.spot(0, 3), 20);
        due("looked()", g.looked(), -5);
        g.need(1, 19);
        due("looked()", g.looked(), 1);
        g.need(1, 20);
        due("ends(0)", g.ends(0), ends);
        due("ends(0)", ends, 10 * 22 + 18 + 2);
        g.see(-1, 0, 0);
        g.see(3, 0, 20);
        due("spot(0, 2), of old rows nothing is left", g.spot(0, 2), 100);
    }

    private static void nothingIsLeftOfTheUndone() {
        GlobeCorner g = promise(27);
        g.child(6, 1);
        g.image();
        g.child(6, 2);
        for (int part = 0; part < 4; part++) g.row(1, part, 9);
        g.point(1, 3);
        g.pass(5);
        due("undo()", g.undo(), 1);
        due("spin(1)", g.spin(1), 0);
        due("bell()", g.bell(), 0);
        due("ends(1)", g.ends(1), 0);
        due("child, anew", g.child(6, 7), 1);
        due("of(1, 1)", g.of(1, 1), 7);
        due("of(1, 2)", g.of(1, 2), -5);
        due("of(1, 3)", g.of(1, 3), 0);
        for (int p = 0; p < 4; p++) due("of(1, 1" + p + ")", g.of(1, 10 + p), 4);
        due("spin(1)", g.spin(1), 0);
    }

    private static void sixOfThem() {
        GlobeCorner g = promise(27);
        for (int c = 0; c < 6; c++) {
            g.child(6, c);
            for (int part = 0; part < 4; part++) g.row(c, part, (c + part) % 9 + 1);
            g.point(c, c + 4);
        }
        g.plan(0, 0);
        due("ends(0), each by its row", g.ends(0), 240 + 24 - 24 - (1 + 3 + 5 + 7 + 5 + 7));
        due("ends(1)", g.ends(1), 6);
        due("image()", g.image(), 6);
        for (int c = 0; c < 6; c++) for (int part = 0; part < 4; part++) g.row(c, part, 0);
        g.pass(1);
        due("spin(11)", g.spin(11), 6);
        due("of(5, 2)", g.of(5, 2), 8);
        due("bell()", g.bell(), 6);
        due("undo()", g.undo(), 6);
        for (int c = 0; c < 6; c++) {
            due("of(" + c + ", 1)", g.of(c, 1), c);
            due("of(" + c + ", 2)", g.of(c, 2), c + 4);
            due("of(" + c + ", 3)", g.of(c, 3), 0);
            for (int p = 0; p < 4; p++) due("of(" + c + ", 1" + p + ")", g.of(c, 10 + p), 4 + (c + p) % 9 + 1);
        }
        due("crowd(0, 1), 22 by three of 5, 6, .. 10", g.crowd(0, 1), 2 + 4 + 16);
    }

    /** An act of child 1 (beside one of kind 0), v 5, with 7; and the bodies that it runs. */
    private static void actOf(int kind, int act, int want, int... bodies) {
        GlobeCorner g = withKinds(0, kind);
        String call = "act(1, " + act + ", 7) of kind " + kind;
        due(call, g.act(1, act, 7), want);
        due("count(6) behind " + call, g.count(6), bodies.length);
        for (int i = 0; i < bodies.length; i++) due("trace(" + i + ") behind " + call, g.trace(i), bodies[i]);
        due("trace(" + bodies.length + ") behind " + call, g.trace(bodies.length), -1);
    }

    private static void act() {
        promise = 28;
        actOf(0, 0, 8, 10);
        actOf(0, 1, 3, 11, 10);
        actOf(0, 2, 6, 12, 11, 10);
        actOf(1, 0, 8, 10);
        actOf(1, 1, 3 ^ 6, 20, 11, 10);
        actOf(1, 2, 10, 12, 20, 11, 10);
        actOf(2, 0, 22, 30, 10);
        actOf(2, 1, 17, 11, 30, 10);
        actOf(2, 2, 34, 12, 11, 30, 10);
        actOf(3, 0, 8, 10);
        actOf(3, 1, 3, 11, 10);
        actOf(3, 2, 6 - 3, 40, 12, 11, 10, 11, 10);
        actOf(4, 0, -8, 50, 10);
        actOf(4, 1, (-9 - 5) ^ 6, 51, 20, 11, 50, 10);
        actOf(4, 2, 2 * ((-9 - 5) ^ 6), 12, 51, 20, 11, 50, 10);
        actOf(5, 0, 22, 30, 10);
        actOf(5, 1, 17, 11, 30, 10);
        actOf(5, 2, 2 * (6 * 3 + 1 - 5), 60, 12, 11, 30, 10);
        actOf(6, 0, 8 ^ 5, 71, 10);
        actOf(6, 1, (8 ^ 5) - 5 + 3, 70, 11, 71, 10, 10);
        actOf(6, 2, 2 * 11 + ((2 ^ 5) - 5 + 3), 40, 12, 70, 11, 71, 10, 10, 70, 11, 71, 10, 10);

        GlobeCorner told = withKinds(0, 6);
        due("act(1, 0, 4), told", told.act(1, 0, 4), 0);
        due("act(1, 0, 2), told", told.act(1, 0, 2), 6);
        GlobeCorner g = withKinds(0, 2);
        due("act(1, 0, HIGH), wrapping", g.act(1, 0, HIGH), HIGH * 3 + 1);
        due("act(1, 2, LOW), wrapping", g.act(1, 2, LOW), (LOW * 3 + 1 - 5) * 2);
        due("act(2, 0, 1)", g.act(2, 0, 1), 0);
        due("count(6), no trace then", g.count(6), 0);
        due("trace(0)", g.trace(0), -1);
        g.act(0, 0, 1);
        due("act(0, 3, 1)", g.act(0, 3, 1), 0);
        due("count(6), no trace then", g.count(6), 0);
        g.act(0, 0, 1);
        due("act(0, -1, 1)", g.act(0, -1, 1), 0);
        due("act(-1, 0, 1)", g.act(-1, 0, 1), 0);
        due("count(6)", g.count(6), 0);
    }

    private static void trace() {
        GlobeCorner g = promise(29);
        due("trace(0)", g.trace(0), -1);
        g.child(6, 1);
        g.act(0, 2, 1);
        due("trace(0)", g.trace(0), 40);
        due("trace(11)", g.trace(11), 10);
        for (int i : new int[] {-1, 12, 20, LOW, HIGH}) due("trace(" + i + ")", g.trace(i), -1);
        g.act(0, 0, 1);
        due("trace(1)", g.trace(1), 10);
        due("trace(2), the latest alone", g.trace(2), -1);
    }

    private static void taken() {
        GlobeCorner g = promise(30);
        due("taken(0, 7)", g.taken(0, 7), -2);
        due("taken(0, -1)", g.taken(0, -1), -2);
        due("taken(0, 0)", g.taken(0, 0), -11);
        for (int kind = 0; kind < 6; kind++) g.child(kind, 0);
        GlobeCorner told = withKinds(6);
        int[][] above = {{0}, {1, 0}, {2, 0}, {3, 0}, {4, 1, 0}, {5, 2, 0}, {6, 3, 0}};
        for (int kind = 0; kind < 7; kind++) {
            for (int k = 0; k < 7; k++) {
                int want = -12;
                for (int a : above[kind]) if (a == k) want = kind;
                int got = kind == 6 ? told.taken(0, k) : g.taken(kind, k);
                due("taken of kind " + kind + " for " + k, got, want);
            }
        }
        due("taken(6, 0)", g.taken(6, 0), -11);
        due("taken(-1, 6)", g.taken(-1, 6), -11);
        due("taken(6, 7)", g.taken(6, 7), -2);
    }

    private static void count() {
        GlobeCorner g = promise(31);
        g.child(1, 1);
        school(g, "grow 1");
        school(g, "grow 1");
        for (int i = 0; i < 3; i++) g.see(0, 0, 0);
        for (int i = 0; i < 4; i++) g.plan(0, 0);
        for (int i = 0; i < 5; i++) g.book(0, 0);
        for (int i = 0; i < 6; i++) g.feed(65);
        g.act(0, 1, 0);
        int[] want = {1, 2, 3, 4, 5, 6, 3};
        for (int what = 0; what < 7; what++) due("count(" + what + ")", g.count(what), want[what]);
        for (int what : new int[] {-1, 7, LOW, HIGH}) due("count(" + what + ")", g.count(what), -2);
    }

    private static void tape() {
        GlobeCorner g = promise(32);
        due("tape(-1, 9, 99)", g.tape(-1, 9, 99), -1);
        due("tape(6, 0, 0)", g.tape(6, 0, 0), -1);
        due("tape(0, 5, -1)", g.tape(0, 5, -1), -2);
        due("tape(0, -2, 0)", g.tape(0, -2, 0), -2);
        due("tape(0, 0, 61)", g.tape(0, 0, 61), -2);
        due("tape(0, 4, -1)", g.tape(0, 4, -1), -14);
        due("tape(0, 4, LOW)", g.tape(0, 4, LOW), -14);
        due("read(0, 0)", g.read(0, 0), NO);
        due("tape(0, 3, 60)", g.tape(0, 3, 60), 1);
        due("item(0, 59, 5)", g.item(0, 59, 5), 1);
        due("tape(0, 3, 61)", g.tape(0, 3, 61), -2);
        due("read(0, 59)", g.read(0, 59), 5);
        due("tape(0, 3, 60)", g.tape(0, 3, 60), 1);
        due("read(0, 59), all 0", g.read(0, 59), 0);
        due("tape(0, -1, -7)", g.tape(0, -1, -7), 1);
        due("read(0, 0)", g.read(0, 0), NO);
        due("item(0, 0, 0)", g.item(0, 0, 0), -11);
        due("tape(5, 0, 0)", g.tape(5, 0, 0), 1);
        due("item(5, 0, 0), a row of none", g.item(5, 0, 0), -13);
    }

    private static void item() {
        GlobeCorner g = promise(33);
        due("item(6, 0, 0)", g.item(6, 0, 0), -1);
        due("item(-1, 0, 0)", g.item(-1, 0, 0), -1);
        due("item(0, -1, 0)", g.item(0, -1, 0), -11);
        for (int sort = 0; sort < 5; sort++) g.tape(sort, sort, 2);
        long v = 0x1234567890ABCDEFL;
        long[] want = {(byte) v, (short) v, (int) v, v, 1};
        for (int sort = 0; sort < 5; sort++) {
            due("item(" + sort + ", 1, v)", g.item(sort, 1, v), 1);
            due("read(" + sort + ", 1)", g.read(sort, 1), want[sort]);
            due("read(" + sort + ", 0)", g.read(sort, 0), 0);
            due("item(" + sort + ", 2, v)", g.item(sort, 2, v), -13);
            due("item(" + sort + ", -1, v)", g.item(sort, -1, v), -13);
        }
        g.item(4, 1, 1L << 40);
        due("read(4, 1), not 0", g.read(4, 1), 1);
        g.item(4, 1, 0);
        due("read(4, 1)", g.read(4, 1), 0);
        g.item(0, 0, 128);
        due("read(0, 0)", g.read(0, 0), -128);
        g.item(1, 0, 32768);
        due("read(1, 0)", g.read(1, 0), -32768);
        g.item(2, 0, 1L << 31);
        due("read(2, 0)", g.read(2, 0), LOW);
    }

    private static void read() {
        GlobeCorner g = promise(34);
        g.tape(1, 2, 3);
        g.item(1, 2, -9);
        due("read(1, 2)", g.read(1, 2), -9);
        due("read(1, 3)", g.read(1, 3), NO);
        due("read(1, -1)", g.read(1, -1), NO);
        due("read(1, HIGH)", g.read(1, HIGH), NO);
        due("read(0, 0)", g.read(0, 0), NO);
        due("read(6, 0)", g.read(6, 0), NO);
        due("read(-1, 0)", g.read(-1, 0), NO);
    }

    private static void shift() {
        GlobeCorner g = promise(35);
        g.tape(0, 1, 5);
        g.tape(1, 1, 3);
        g.tape(2, 2, 3);
        for (int i = 0; i < 5; i++) g.item(0, i, i + 1);
        due("shift(6, 0, 0, 0, 0)", g.shift(6, 0, 0, 0, 0), -1);
        due("shift(0, 0, -1, 0, 0)", g.shift(0, 0, -1, 0, 0), -1);
        due("shift(3, 0, 6, 0, 0)", g.shift(3, 0, 6, 0, 0), -1);
        due("shift(3, -1, 0, 0, 0)", g.shift(3, -1, 0, 0, 0), -11);
        due("shift(0, -1, 3, 0, 0)", g.shift(0, -1, 3, 0, 0), -11);
        due("shift(0, -1, 2, 0, 0)", g.shift(0, -1, 2, 0, 0), -12);
        int[][] off = {{0, 0, -1}, {-1, 0, 1}, {0, -1, 1}, {3, 0, 3}, {0, 1, 3}, {6, 0, 0}, {0, 4, 0}, {HIGH, 0, 1},
            {0, HIGH, HIGH}, {1, 0, HIGH}, {0, 0, LOW}, {0, 0, 4}};
        for (int[] o : off) {
            due("shift(0, " + o[0] + ", 1, " + o[1] + ", " + o[2] + ")", g.shift(0, o[0], 1, o[1], o[2]), -13);
        }
        due("shift(0, 5, 1, 3, 0)", g.shift(0, 5, 1, 3, 0), 0);
        due("shift(0, 2, 1, 0, 3)", g.shift(0, 2, 1, 0, 3), 3);
        for (int i = 0; i < 3; i++) due("read(1, " + i + ")", g.read(1, i), i + 3);
        due("shift(0, 0, 0, 1, 4)", g.shift(0, 0, 0, 1, 4), 4);
        long[] up = {1, 1, 2, 3, 4};
        for (int i = 0; i < 5; i++) due("read(0, " + i + ")", g.read(0, i), up[i]);
        due("shift(0, 2, 0, 0, 3)", g.shift(0, 2, 0, 0, 3), 3);
        long[] down = {2, 3, 4, 3, 4};
        for (int i = 0; i < 5; i++) due("read(0, " + i + ")", g.read(0, i), down[i]);
    }

    private static void askedChangesNothing() {
        promise = 14;
        GlobeCorner g = withKinds(0, 1, 4, 5, 6);
        for (int c = 0; c < 5; c++) g.point(c, c * 2);
        g.see(0, 3, 3);
        g.plan(0, 0);
        g.plan(1, 2);
        g.plan(3, 3);
        long before = print(g);
        g.spot(0, 1);
        g.spot(0, 2);
        g.told(4);
        g.told(12);
        g.on(60, 0);
        g.crowd(1, 12);
        g.turn(12);
        g.can(1, 0);
        g.odds(1, 2, 20, 0);
        g.mean(60, 0);
        g.ends(0);
        g.looked();
        due("all, behind what is asked", print(g), before);
    }

    private static long print(GlobeCorner g) {
        long all = g.told(0);
        for (int p = 0; p < 12; p++) all = all * 31 + g.spot(p, 0);
        for (int c = 0; c < 6; c++) for (int what = 0; what < 22; what++) all = all * 31 + g.of(c, what);
        for (int what = 0; what < 7; what++) all = all * 31 + g.count(what);
        return all;
    }

    private static void beyondTheLastHour() {
        GlobeCorner g = promise(22);
        g.child(5, 0);
        g.child(3, 0);
        g.point(0, 0);
        for (int i = 0; i < 166; i++) g.pass(60);
        g.pass(39);
        due("told(0)", g.told(0), 9999);
        due("of(0, 3)", g.of(0, 3), 9999);
        for (int i = 0; i < 10; i++) g.plan(0, 0);
        due("ends(1), beyond 9999", g.ends(1), 10009);
        promise = 14;
        g.point(1, 5);
        g.need(5, 50);
        // 9999 modulo 4 is 3: it dreams in the first hour, and not in the next three.
        due("on(1, 15)", g.on(1, 15), 52);
        due("on(4, 15)", g.on(4, 15), 46);
        due("on(5, 15)", g.on(5, 15), 48);
        school(g, "more 8 h<2&p=1");
        due("on(3, 15), hours 10000 and 10001", g.on(3, 15), 52 - 10 - 10);
    }
}
