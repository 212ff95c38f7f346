/** The promises 1 to 35, sentence by sentence: what is just within each bound, just beyond, empty, full, refused. */
public final class PromisesEdgesTest extends Edges {
    public static void main(String[] args) {
        calls();
        aNewObject();
        child();
        of();
        spot();
        point();
        need();
        spin();
        bell();
        row();
        feed();
        school();
        told();
        pass();
        on();
        crowd();
        turn();
        see();
        can();
        odds();
        mean();
        plan();
        ends();
        book();
        looked();
        judge();
        image();
        undo();
        act();
        trace();
        taken();
        count();
        tape();
        item();
        read();
        shift();
        end(promises());
    }

    private static String[] promises() {
        String[] names = new String[35];
        for (int i = 0; i < 35; i++) names[i] = "Promise " + (i + 1);
        return names;
    }

    private static void calls() {
        part("What it is");
        sentence("An object is used for at most 512 calls after it has been made; what later calls answer is free.");
        GlobeCorner g = kids(0);
        for (int call = 2; call < 512; call++) g.pass(call % 2);
        due("the 512th call", g.told(0), 255);
        part("Not promised");
        sentence("Nothing is promised beyond the answers and state changes described above, and nothing about an object "
            + "after its 512th call.");
        // Yet no call may ever throw.
        for (int call = 513; call < 3000; call++) g.pass(60);
        due("the 3000th call ends", g.told(0) >= 0 ? 1 : 0, 1);
    }

    // ---- children, places, schools

    private static void aNewObject() {
        part("Promise 1");
        sentence("No CHILDREN, no SCHOOL.");
        GlobeCorner g = new GlobeCorner();
        for (int what = 0; what < 7; what++) due("count(" + what + ")", g.count(what), 0);
        due("of(0, 0)", g.of(0, 0), NONE_BELOW);
        due("point(0, 0)", g.point(0, 0), NONE);
        due("row(0, 0, 0)", g.row(0, 0, 0), NONE);
        due("told(1)", g.told(1), 2);
        due("told(4)", g.told(4), 0);
        due("told(10)", g.told(10), NONE);
        due("can(0, 0)", g.can(0, 0), NONE);
        due("odds(0, 0, 0, 0)", g.odds(0, 0, 0, 0), NO);
        due("plan(1, 0)", g.plan(1, 0), NONE);
        due("ends(1)", g.ends(1), 0);
        due("spin(1)", g.spin(1), 0);
        due("bell()", g.bell(), 0);
        due("turn(1)", g.turn(1), 0);
        due("taken(0, 0)", g.taken(0, 0), NOTHING);
        due("act(0, 0, 7)", g.act(0, 0, 7), 0);
        due("undo()", g.undo(), STATE);
        due("image()", g.image(), 0);
    }

    private static void child() {
        part("Promise 2");
        sentence("A CHILD: its number.");
        GlobeCorner g = new GlobeCorner();
        due("child(0, 0)", g.child(0, 0), 0);
        due("child(6, 9)", g.child(6, 9), 1);
        due("of(0, 0)", g.of(0, 0), 0);
        due("of(1, 0)", g.of(1, 0), 6);
        due("of(1, 1)", g.of(1, 1), 9);
        sentence("NONE: kind; BAD: v; FULL: 6.");
        dueOfEach("child(kind, 0)", kind -> g.child(kind, 0), NONE, -1, 7, LOW, HIGH);
        dueOfEach("child(0, v)", v -> g.child(0, v), BAD, -1, 10, LOW, HIGH);
        for (int c = 2; c < 6; c++) due("child(1, 1)", g.child(1, 1), c);
        due("child(1, 1), a seventh", g.child(1, 1), FULL);
        due("count(0)", g.count(0), 6);
    }

    private static void of() {
        part("Promise 3");
        sentence("Of a CHILD what 0 KIND, 1 v, 2 its FINGER (-5: on none), 3 STOOD, 10 and x CARE for PLACE x, whether its "
            + "FINGER is on it or not.");
        GlobeCorner g = taught("more 20 x=0;less 5 x=11", 1);
        due("of(0, 0)", g.of(0, 0), 1);
        due("of(0, 1)", g.of(0, 1), 5);
        due("of(0, 2), on none", g.of(0, 2), NEVER);
        due("of(0, 10)", g.of(0, 10), 29);
        due("of(0, 21)", g.of(0, 21), 4);
        g.point(0, 0);
        due("of(0, 2), on 0", g.of(0, 2), 0);
        due("of(0, 10), its finger on it", g.of(0, 10), 29);
        g.point(0, 11);
        due("of(0, 2), on 11", g.of(0, 2), 11);
        due("of(0, 3)", g.of(0, 3), 0);
        g.pass(1);
        due("of(0, 3)", g.of(0, 3), 1);
        due("of(0, 21), its finger on it", g.of(0, 21), 4);
        sentence("-10001: NONE.");
        dueOfEach("of(c, 0)", c -> g.of(c, 0), -10001, -1, 1, 6, LOW, HIGH);
        dueOfEach("of(0, what)", what -> g.of(0, what), -10001, -1, 4, 5, 9, 22, LOW, HIGH);
    }

    private static void spot() {
        part("Promise 4");
        sentence("Of a PLACE what 0 NEED, 1 WELL (-5), 2 NEEDS: how many, 3 the least (-5).");
        GlobeCorner g = kids(0);
        g.point(0, 11);
        due("spot(11, 0)", g.spot(11, 0), 20);
        due("spot(11, 1)", g.spot(11, 1), 10);
        due("spot(0, 1)", g.spot(0, 1), -5);
        due("spot(0, 2)", g.spot(0, 2), 100);
        due("spot(0, 3)", g.spot(0, 3), 0);
        g.see(0, 0, 7);
        due("spot(0, 2)", g.spot(0, 2), 1);
        due("spot(0, 3)", g.spot(0, 3), 7);
        due("spot(11, 2)", g.spot(11, 2), 0);
        due("spot(11, 3)", g.spot(11, 3), -5);
        sentence("NONE.");
        dueOfEach("spot(p, 0)", p -> g.spot(p, 0), NONE, -1, 12, LOW, HIGH);
        dueOfEach("spot(p, 3)", p -> g.spot(p, 3), NONE, -1, 12, LOW, HIGH);
        dueOfEach("spot(0, what)", what -> g.spot(0, what), NONE, -1, 4, LOW, HIGH);
    }

    private static void point() {
        part("Promise 5");
        sentence("The FINGER of a CHILD is on a PLACE (spot -1: on none): where it was (-5: on none).");
        GlobeCorner g = kids(0, 0);
        due("point(0, 0)", g.point(0, 0), -5);
        due("point(0, 11)", g.point(0, 11), 0);
        due("point(0, 11), again", g.point(0, 11), 11);
        due("point(0, -1)", g.point(0, -1), 11);
        due("of(0, 2)", g.of(0, 2), -5);
        due("point(0, -1), again", g.point(0, -1), -5);
        due("point(1, 5)", g.point(1, 5), -5);
        due("point(0, 5), both there", g.point(0, 5), -5);
        due("of(1, 2)", g.of(1, 2), 5);
        sentence("NONE.");
        dueOfEach("point(c, 0)", c -> g.point(c, 0), NONE, -1, 2, 6, LOW, HIGH);
        dueOfEach("point(0, p)", p -> g.point(0, p), NONE, -2, -5, 12, LOW, HIGH);
        due("of(0, 2)", g.of(0, 2), 5);
    }

    private static void need() {
        part("Promise 6");
        sentence("NEED of a PLACE becomes n (0 .. 99): what it was.");
        GlobeCorner g = new GlobeCorner();
        due("need(0, 0)", g.need(0, 0), 20);
        due("need(0, 99)", g.need(0, 99), 0);
        due("need(0, 99), again", g.need(0, 99), 99);
        due("need(11, 0)", g.need(11, 0), 20);
        due("spot(0, 0)", g.spot(0, 0), 99);
        due("spot(11, 0)", g.spot(11, 0), 0);
        due("told(2), no other", g.told(2), 10 * 20 + 99);
        sentence("NONE; BAD.");
        dueOfEach("need(p, 0)", p -> g.need(p, 0), NONE, -1, 12, LOW, HIGH);
        dueOfEach("need(0, n)", n -> g.need(0, n), BAD, -1, 100, LOW, HIGH);
        due("need(-1, -1)", g.need(-1, -1), NONE);
        due("spot(0, 0)", g.spot(0, 0), 99);
    }

    private static void spin() {
        part("Promise 7");
        sentence("A SPIN by s (0 .. 11): how many FINGERS are on some PLACE.");
        GlobeCorner g = kids(0, 0, 0, 0, 0, 0);
        due("spin(0), no finger", g.spin(0), 0);
        due("spin(11), no finger", g.spin(11), 0);
        for (int c = 0; c < 6; c++) {
            g.point(c, 11 - c);
            due("spin(0)", g.spin(0), c + 1);
        }
        due("spin(11)", g.spin(11), 6);
        for (int c = 0; c < 6; c++) due("of(" + c + ", 2)", g.of(c, 2), 10 - c);
        due("spin(6)", g.spin(6), 6);
        int[] there = {4, 3, 2, 1, 0, 11};
        for (int c = 0; c < 6; c++) due("of(" + c + ", 2)", g.of(c, 2), there[c]);
        sentence("BAD.");
        dueOfEach("spin(s)", s -> g.spin(s), BAD, -1, 12, LOW, HIGH);
        for (int c = 0; c < 6; c++) due("of(" + c + ", 2)", g.of(c, 2), there[c]);
    }

    private static void bell() {
        part("Promise 8");
        sentence("All FINGERS are on none: how many were on some PLACE.");
        GlobeCorner g = kids(0, 0, 0, 0, 0, 0);
        due("bell(), none", g.bell(), 0);
        g.point(5, 0);
        due("bell(), one on 0", g.bell(), 1);
        for (int c = 0; c < 6; c++) g.point(c, 11);
        due("bell(), all", g.bell(), 6);
        for (int c = 0; c < 6; c++) due("of(" + c + ", 2)", g.of(c, 2), NEVER);
        due("bell(), none again", g.bell(), 0);
        due("spin(1)", g.spin(1), 0);
        g.pass(1);
        due("of(5, 3), stood no more", g.of(5, 3), 0);
    }

    private static void row() {
        part("Promise 9");
        sentence("The ROW of a TOLD one becomes n (0 .. 9) for PLACES modulo 4 being part: what it was.");
        GlobeCorner g = kids(6, 3, 6);
        due("row(0, 0, 9)", g.row(0, 0, 9), 0);
        due("row(0, 0, 0)", g.row(0, 0, 0), 9);
        due("row(0, 3, 9)", g.row(0, 3, 9), 0);
        for (int p = 0; p < 12; p++) due("of(0, 1" + p + ")", g.of(0, 10 + p), p % 4 == 3 ? 13 : 4);
        due("of(2, 13), not the other's", g.of(2, 13), 4);
        sentence("NONE: child, part; BAD; STATE: another KIND.");
        dueOfEach("row(c, 0, 0)", c -> g.row(c, 0, 0), NONE, -1, 3, LOW, HIGH);
        dueOfEach("row(0, part, 0)", part -> g.row(0, part, 0), NONE, -1, 4, LOW, HIGH);
        dueOfEach("row(0, 0, n)", n -> g.row(0, 0, n), BAD, -1, 10, LOW, HIGH);
        due("row(1, 0, 0), dreamy", g.row(1, 0, 0), STATE);
        for (int kind = 0; kind < 6; kind++) due("row, kind " + kind, kids(kind).row(0, 0, 0), STATE);
        due("row(1, 4, 0), dreamy", g.row(1, 4, 0), NONE);
        due("row(1, 0, 10), dreamy", g.row(1, 0, 10), BAD);
        due("row(0, 3, 0)", g.row(0, 3, 0), 9);
    }

    private static void feed() {
        part("Promise 10");
        sentence("A sign (0 .. 127) comes behind THE TEXT's: how many it has.");
        GlobeCorner g = new GlobeCorner();
        due("feed(0)", g.feed(0), 1);
        due("feed(127)", g.feed(127), 2);
        due("school(), 0 is the first", g.school(), -10);
        GlobeCorner last = new GlobeCorner();
        feed(last, "grow ");
        due("feed(127)", last.feed(127), 6);
        due("school(), 127 is the sixth", last.school(), -15);
        sentence("BAD; FULL.");
        dueOfEach("feed(sign)", sign -> g.feed(sign), BAD, -1, 128, 256 + 'g', LOW, HIGH);
        due("count(5)", g.count(5), 0);
        for (int i = 1; i <= 100; i++) due("feed, the " + i + "th", g.feed('g'), i);
        due("feed, full", g.feed('g'), FULL);
        due("feed(128), full", g.feed(128), BAD);
        due("feed(-1), full", g.feed(-1), BAD);
        due("count(5)", g.count(5), 100);
    }

    private static void school() {
        part("Promise 11");
        sentence("THE TEXT, which is empty then, is a SCHOOL, and holds: its number.");
        GlobeCorner g = kids(0);
        for (int i = 0; i < 6; i++) {
            due("school", school(g, "grow " + (9 - i)), i);
            due("told(1)", g.told(1), 9 - i);
            due("count(5), empty then", g.count(5), 0);
            due("count(1)", g.count(1), i + 1);
        }
        sentence("FULL: there are 6 (THE TEXT stays); -10 less the FAULT (the one that held holds).");
        due("school(), full, an empty text", g.school(), FULL);
        due("school(), full", school(g, "grow 1"), FULL);
        due("count(5), stays", g.count(5), 6);
        due("feed(33)", g.feed(33), 7);
        due("school(), full and faulty", g.school(), FULL);
        due("count(5), stays", g.count(5), 7);
        due("told(1)", g.told(1), 4);
        GlobeCorner one = kids(0);
        due("school(), an empty text", one.school(), -10);
        due("count(5)", one.count(5), 0);
        due("told(1), none held", one.told(1), 2);
        school(one, "grow 7;more 1 p=0");
        due("school(), faulty", school(one, "grow 9;less 1 p=0;"), -28);
        due("count(5), empty then", one.count(5), 0);
        due("count(1)", one.count(1), 1);
        due("told(1), the one that held", one.told(1), 7);
        due("of(0, 10), the one that held", one.of(0, 10), 5);
        due("school(), the empty text again", one.school(), -10);
        due("the next", school(one, "less 1 p=0"), 1);
        due("of(0, 10), nothing of the faulty one", one.of(0, 10), 3);
        due("told(1), nothing of the faulty one", one.told(1), 2);
        nothingOfTheTextBefore();
        nothingOfFaultyOnes();
        faultyOnesDoNotCount();
    }

    private static void nothingOfTheTextBefore() {
        GlobeCorner g = kids(0);
        school(g, "grow 99");
        due("a shorter text", school(g, "grow 9"), 1);
        due("told(1)", g.told(1), 9);
        due("a shorter text that ends too early", school(g, "grow"), -14);
        due("a longer one", school(g, "grow 5;more 1 p=0;more 1 p<12"), 2);
        due("of(0, 10)", g.of(0, 10), 6);
        due("a shorter one", school(g, "grow 5;more 1 p=0"), 3);
        due("of(0, 10)", g.of(0, 10), 5);
    }

    private static void nothingOfFaultyOnes() {
        GlobeCorner g = kids(0);
        due("two clauses, then a fault", school(g, "more 9 p=0;more 9 p<9;"), -32);
        due("another first clause", school(g, "less 1 p=9"), 0);
        due("of(0, 10), neither of the two", g.of(0, 10), 4);
        GlobeCorner again = kids(0);
        String early = "more 1 " + "p=0&".repeat(20);
        for (int i = 0; i < 4; i++) due("a long text that ends too early", school(again, early), -97);
        due("a whole one", school(again, "more 9 p=0;less 1 p=0"), 0);
        due("of(0, 10)", again.of(0, 10), 12);
    }

    private static void faultyOnesDoNotCount() {
        GlobeCorner g = new GlobeCorner();
        for (int i = 0; i < 10; i++) due("school(), faulty", school(g, "grow"), -14);
        for (int i = 0; i < 6; i++) due("school()", school(g, "grow 1"), i);
        due("school(), full", school(g, "grow"), FULL);
        GlobeCorner end = new GlobeCorner();
        feed(end, "grow 1;".repeat(14) + "gr");
        due("school(), the eleventh clause", end.school(), -10 - 69);
        feed(end, "more 1 " + "p=0&".repeat(23) + "x");
        due("school(), 100 bytes that end too early", end.school(), -110);
    }

    private static void told() {
        part("Promise 12");
        sentence("What 0 HOUR, 1 GROW, 2 NEED of all, together, 3 how many are WELL, 4 POSTS: how much, 10 and c the PLACE "
            + "of CHILD c by that.");
        GlobeCorner g = kids(0, 0, 0, 0, 0, 0);
        needAll(g, 0);
        due("told(2), the least", g.told(2), 0);
        due("told(3), all", g.told(3), 12);
        needAll(g, 99);
        due("told(2), the most", g.told(2), 12 * 99);
        due("told(3), none", g.told(3), 0);
        g.need(11, 0);
        due("told(3), one", g.told(3), 1);
        due("told(0)", g.told(0), 0);
        g.pass(60);
        due("told(0)", g.told(0), 60);
        school(g, "grow 99");
        due("told(1)", g.told(1), 99);
        due("told(4)", g.told(4), 24);
        for (int c = 0; c < 6; c++) due("told(1" + c + ")", g.told(10 + c), c);
        sentence("NONE.");
        dueOfEach("told(what)", what -> g.told(what), NONE, -1, 5, 9, 16, 21, LOW, HIGH);
        GlobeCorner two = kids(0, 0);
        due("told(11), the last child", two.told(11), 1);
        due("told(12), no such child", two.told(12), NONE);
    }

    // ---- hours

    private static void pass() {
        part("Promise 13");
        sentence("n HOURS (0 .. 60) go: HOUR.");
        GlobeCorner g = kids(0);
        g.point(0, 0);
        due("pass(0)", g.pass(0), 0);
        due("spot(1, 0)", g.spot(1, 0), 20);
        due("pass(1)", g.pass(1), 1);
        due("spot(1, 0)", g.spot(1, 0), 22);
        due("pass(60)", g.pass(60), 61);
        due("of(0, 3)", g.of(0, 3), 61);
        sentence("BAD; STATE: it would be above 9999.");
        dueOfEach("pass(n)", n -> g.pass(n), BAD, -1, 61, LOW, HIGH);
        due("told(0)", g.told(0), 61);
        passTo(g, 9940);
        due("pass(60), to 10000", g.pass(60), STATE);
        due("told(0)", g.told(0), 9940);
        due("pass(59), to 9999", g.pass(59), 9999);
        due("pass(0)", g.pass(0), 9999);
        due("pass(1)", g.pass(1), STATE);
        due("pass(60)", g.pass(60), STATE);
        due("pass(61)", g.pass(61), BAD);
        due("of(0, 3)", g.of(0, 3), 9999);
    }

    private static void on() {
        part("Promise 14");
        sentence("ON: what 0 NEED of all, together, 1 how many are WELL, 10 and x NEED of PLACE x.");
        GlobeCorner g = new GlobeCorner();
        g.need(0, 0);
        g.need(11, 99);
        due("on(0, 0)", g.on(0, 0), 299);
        due("on(60, 0)", g.on(60, 0), 12 * 99);
        due("on(0, 1)", g.on(0, 1), 1);
        due("on(60, 1)", g.on(60, 1), 0);
        due("on(0, 10)", g.on(0, 10), 0);
        due("on(49, 10)", g.on(49, 10), 98);
        due("on(50, 10)", g.on(50, 10), 99);
        due("on(0, 21)", g.on(0, 21), 99);
        sentence("NONE; BAD: n.");
        dueOfEach("on(0, what)", what -> g.on(0, what), NONE, -1, 2, 9, 22, LOW, HIGH);
        dueOfEach("on(61, what)", what -> g.on(61, what), NONE, -1, 2, 9, 22, LOW, HIGH);
        for (int what : new int[] {0, 1, 10, 21}) {
            dueOfEach("on(n, " + what + ")", n -> g.on(n, what), BAD, -1, 61, LOW, HIGH);
        }
    }

    private static void crowd() {
        part("Promise 15");
        sentence("CROWD (bits); -5.");
        GlobeCorner g = kids(2, 0, 0);
        g.need(0, 2);
        due("crowd(0, 1), the second", g.crowd(0, 1), 2);
        g.need(0, 8);
        due("crowd(0, 1), all three", g.crowd(0, 1), 7);
        g.need(0, 9);
        due("crowd(0, 1), none", g.crowd(0, 1), -5);
        due("crowd(11, 12), the second", g.crowd(11, 12), 2);
        sentence("NONE; BAD: n.");
        dueOfEach("crowd(p, 1)", p -> g.crowd(p, 1), NONE, -1, 12, LOW, HIGH);
        dueOfEach("crowd(p, 13)", p -> g.crowd(p, 13), NONE, -1, 12, LOW, HIGH);
        dueOfEach("crowd(0, n)", n -> g.crowd(0, n), BAD, -1, 0, 13, LOW, HIGH);
    }

    private static void turn() {
        part("Promise 16");
        sentence("TURN.");
        GlobeCorner g = taught("more 5 x=4", 0);
        needAll(g, 70);
        due("turn(1), no finger", g.turn(1), 0);
        g.point(0, 4);
        due("turn(1), by 0", g.turn(1), 0);
        g.point(0, 5);
        due("turn(1), by 11", g.turn(1), 11);
        due("turn(12), by 11", g.turn(12), 11);
        g.point(0, 3);
        due("turn(12), by 1", g.turn(12), 1);
        due("of(0, 2)", g.of(0, 2), 3);
        sentence("BAD.");
        dueOfEach("turn(n)", n -> g.turn(n), BAD, -1, 0, 13, LOW, HIGH);
    }

    // ---- seen, odds

    private static void see() {
        part("Promise 17");
        sentence("What is SEEN comes: how many there are (spot -1: none then, 0).");
        GlobeCorner g = new GlobeCorner();
        due("see(-1, 0, 0), none yet", g.see(-1, 0, 0), 0);
        due("see(0, 0, 0)", g.see(0, 0, 0), 1);
        due("see(11, 12, 99)", g.see(11, 12, 99), 2);
        due("see(-1, 13, 100), none then", g.see(-1, 13, 100), 0);
        due("count(2)", g.count(2), 0);
        due("spot(0, 2), none then", g.spot(0, 2), 100);
        due("see(-1, LOW, HIGH), none still", g.see(-1, LOW, HIGH), 0);
        sentence("NONE; BAD: n, need; FULL: 5.");
        dueOfEach("see(p, 0, 0)", p -> g.see(p, 0, 0), NONE, -2, 12, LOW, HIGH);
        dueOfEach("see(0, n, 0)", n -> g.see(0, n, 0), BAD, -1, 13, LOW, HIGH);
        dueOfEach("see(0, 0, need)", need -> g.see(0, 0, need), BAD, -1, 100, LOW, HIGH);
        for (int i = 1; i <= 5; i++) due("see(0, 12, 0)", g.see(0, 12, 0), i);
        due("see(0, 12, 0), a sixth", g.see(0, 12, 0), FULL);
        due("see(12, 12, 0), full", g.see(12, 12, 0), NONE);
        due("see(0, 13, 0), full", g.see(0, 13, 0), BAD);
        due("count(2)", g.count(2), 5);
        due("see(-1, 0, 0), full", g.see(-1, 0, 0), 0);
        due("see(0, 12, 0)", g.see(0, 12, 0), 1);
    }

    private static void can() {
        part("Promise 18");
        sentence("CAN: what 0 how many, 1 the least; -5.");
        GlobeCorner g = kids(0, 1);
        due("can(0, 0)", g.can(0, 0), 10);
        due("can(0, 1)", g.can(0, 1), 0);
        g.point(1, 11);
        g.see(11, 1, 9);
        due("can(1, 0)", g.can(1, 0), 1);
        due("can(1, 1)", g.can(1, 1), 9);
        due("can(0, 0)", g.can(0, 0), 0);
        due("can(0, 1)", g.can(0, 1), -5);
        sentence("NONE.");
        dueOfEach("can(c, 0)", c -> g.can(c, 0), NONE, -1, 2, LOW, HIGH);
        dueOfEach("can(0, what)", what -> g.can(0, what), NONE, -1, 2, LOW, HIGH);
    }

    private static void odds() {
        part("Promise 19");
        sentence("ODDS; part 0 above, 1 below the line.");
        GlobeCorner g = kids(0);
        g.need(11, 2);
        due("odds(0, 11, 1, 0)", g.odds(0, 11, 1, 0), 1);
        due("odds(0, 11, 1, 1)", g.odds(0, 11, 1, 1), 12);
        due("odds(0, 11, 0, 0)", g.odds(0, 11, 0, 0), 0);
        due("odds(0, 11, 0, 1)", g.odds(0, 11, 0, 1), 1);
        due("odds(0, 11, 20, 1)", g.odds(0, 11, 20, 1), 12);
        sentence("NO: child, spot, n, part.");
        for (int off : new int[] {-1, 1, 6, LOW, HIGH}) due("odds, child " + off, g.odds(off, 0, 0, 0), NO);
        for (int off : new int[] {-1, 12, LOW, HIGH}) due("odds, spot " + off, g.odds(0, off, 0, 0), NO);
        for (int off : new int[] {-1, 21, LOW, HIGH}) due("odds, n " + off, g.odds(0, 0, off, 0), NO);
        for (int off : new int[] {-1, 2, LOW, HIGH}) due("odds, part " + off, g.odds(0, 0, 0, off), NO);
    }

    private static void mean() {
        part("Promise 20");
        sentence("MEAN; part likewise.");
        GlobeCorner g = new GlobeCorner();
        g.need(0, 99);
        due("mean(0, 0)", g.mean(0, 0), 319);
        due("mean(0, 1)", g.mean(0, 1), 12);
        due("mean(60, 0)", g.mean(60, 0), 99);
        due("mean(60, 1)", g.mean(60, 1), 1);
        due("mean(39, 0), 98 of 11 and 99", g.mean(39, 0), 11 * 98 + 99);
        sentence("NO: n, part.");
        for (int off : new int[] {-1, 61, LOW, HIGH}) due("mean, n " + off, g.mean(off, 0), NO);
        for (int off : new int[] {-1, 2, LOW, HIGH}) due("mean, part " + off, g.mean(0, off), NO);
    }

    // ---- plans, books

    private static void plan() {
        part("Promise 21");
        sentence("A row comes to the PLAN: how many there are (what -1: it is empty then, 0).");
        GlobeCorner g = kids(0, 0);
        due("plan(-1, 0), empty yet", g.plan(-1, 0), 0);
        due("plan(0, 0)", g.plan(0, 0), 1);
        due("plan(3, 0)", g.plan(3, 0), 2);
        due("plan(-1, LOW)", g.plan(-1, LOW), 0);
        due("count(3)", g.count(3), 0);
        due("ends(0), empty then", g.ends(0), 240);
        due("plan(-1, HIGH)", g.plan(-1, HIGH), 0);
        sentence("NONE: what (0 .. 3), child (by 1), PLACE (by 3; by 0 n does not matter); BAD: SPIN (by 2); FULL: 10.");
        dueOfEach("plan(what, 0)", what -> g.plan(what, 0), NONE, -2, 4, LOW, HIGH);
        dueOfEach("plan(1, child)", c -> g.plan(1, c), NONE, -1, 2, 6, LOW, HIGH);
        dueOfEach("plan(3, p)", p -> g.plan(3, p), NONE, -1, 12, LOW, HIGH);
        dueOfEach("plan(2, s)", s -> g.plan(2, s), BAD, -1, 12, LOW, HIGH);
        due("count(3)", g.count(3), 0);
        int[][] rows = {{1, 0}, {1, 1}, {2, 0}, {2, 11}, {3, 0}, {3, 11}, {0, LOW}, {0, -1}, {0, 12}, {0, HIGH}};
        for (int i = 0; i < 10; i++) due("plan, row " + i, g.plan(rows[i][0], rows[i][1]), i + 1);
        due("ends(0), four hours go", g.ends(0), 200 + 12 * 8);
        for (int what = 0; what < 4; what++) due("plan(" + what + ", 0), full", g.plan(what, 0), FULL);
        due("plan(4, 0), full", g.plan(4, 0), NONE);
        due("plan(1, 2), full", g.plan(1, 2), NONE);
        due("plan(3, 12), full", g.plan(3, 12), NONE);
        due("plan(2, 12), full", g.plan(2, 12), BAD);
        due("count(3)", g.count(3), 10);
        due("plan(-1, 0), full", g.plan(-1, 0), 0);
        due("plan(0, 0)", g.plan(0, 0), 1);
    }

    private static void ends() {
        part("Promise 22");
        sentence("ENDS: what 0 NEED, 1 STOOD.");
        GlobeCorner g = kids(0, 0);
        g.point(0, 0);
        g.point(1, 11);
        g.pass(1);
        due("ends(0), no plan", g.ends(0), 240 + 24 - 8);
        due("ends(1), no plan", g.ends(1), 2);
        for (int i = 0; i < 10; i++) g.plan(0, 0);
        due("ends(0), ten hours", g.ends(0), 10 * 42);
        due("ends(1), ten hours", g.ends(1), 22);
        sentence("NONE.");
        dueOfEach("ends(what)", what -> g.ends(what), NONE, -1, 2, LOW, HIGH);
    }

    private static void book() {
        part("Promise 23");
        sentence("A row comes to the BOOK: how many there are (spot -1: it is empty then, 0).");
        GlobeCorner g = new GlobeCorner();
        due("book(-1, 0), empty yet", g.book(-1, 0), 0);
        due("book(0, 0)", g.book(0, 0), 1);
        due("book(11, 99)", g.book(11, 99), 2);
        due("looked()", g.looked(), 0);
        due("book(-1, 100)", g.book(-1, 100), 0);
        due("count(4)", g.count(4), 0);
        due("looked(), empty then", g.looked(), NEVER);
        due("book(-1, LOW)", g.book(-1, LOW), 0);
        sentence("NONE; BAD: need; FULL: 8.");
        dueOfEach("book(p, 0)", p -> g.book(p, 0), NONE, -2, 12, LOW, HIGH);
        dueOfEach("book(0, need)", need -> g.book(0, need), BAD, -1, 100, LOW, HIGH);
        for (int i = 1; i <= 8; i++) due("book(11, 99)", g.book(11, 99), i);
        due("book(11, 99), a ninth", g.book(11, 99), FULL);
        due("book(12, 99), full", g.book(12, 99), NONE);
        due("book(11, 100), full", g.book(11, 100), BAD);
        due("count(4)", g.count(4), 8);
        due("book(-1, 0), full", g.book(-1, 0), 0);
        due("book(11, 99)", g.book(11, 99), 1);
    }

    private static void looked() {
        part("Promise 24");
        sentence("LOOKED at; -5.");
        GlobeCorner g = new GlobeCorner();
        due("looked(), empty", g.looked(), -5);
        for (int i = 0; i < 7; i++) g.book(i, 20);
        due("looked()", g.looked(), -5);
        g.book(11, 19);
        due("looked(), the eighth", g.looked(), 7);
        g.need(11, 19);
        due("looked()", g.looked(), -5);
        g.need(0, 0);
        due("looked(), the first", g.looked(), 0);
    }

    // ---- judging, the image, acts, tapes

    private static void judge() {
        part("Promise 25");
        sentence("JUDGED from place i of a TAPE on.");
        GlobeCorner g = new GlobeCorner();
        g.tape(0, 0, 60);
        for (int i = 48; i < 60; i++) g.item(0, i, 20);
        due("judge(0, 48)", g.judge(0, 48), NEVER);
        due("judge(0, 47)", g.judge(0, 47), 0);
        due("judge(0, 49)", g.judge(0, 49), 111);
        due("judge(0, 60)", g.judge(0, 60), 100);
        due("judge(0, -1)", g.judge(0, -1), 100);
        due("judge(5, 0), nothing there", g.judge(5, 0), 100);
        sentence("NONE: tape; CAST: it is no row of bytes.");
        dueOfEach("judge(t, 0)", t -> g.judge(t, 0), NONE, -1, 6, LOW, HIGH);
        for (int sort = 1; sort < 5; sort++) {
            g.tape(1, sort, sort == 4 ? 0 : 12);
            due("judge(1, 0), sort " + sort, g.judge(1, 0), CAST);
            due("judge(1, -1), sort " + sort, g.judge(1, -1), CAST);
            due("judge(1, 60), sort " + sort, g.judge(1, 60), CAST);
        }
    }

    private static void image() {
        part("Promise 26");
        sentence("THE IMAGE is taken: how many CHILDREN there are.");
        GlobeCorner g = new GlobeCorner();
        due("image(), none", g.image(), 0);
        for (int c = 0; c < 6; c++) {
            g.child(c, c);
            due("image()", g.image(), c + 1);
        }
        g.need(0, 1);
        due("image(), the newest", g.image(), 6);
        g.need(0, 2);
        g.undo();
        due("spot(0, 0)", g.spot(0, 0), 1);
    }

    private static void undo() {
        part("Promise 27");
        sentence("All is as THE IMAGE: how many CHILDREN.");
        GlobeCorner g = new GlobeCorner();
        g.image();
        for (int c = 0; c < 6; c++) g.child(6, c);
        g.point(5, 11);
        for (int part = 0; part < 4; part++) g.row(5, part, 9);
        g.pass(9);
        for (int i = 0; i < 5; i++) g.see(0, 0, 0);
        for (int i = 0; i < 10; i++) g.plan(1, 5);
        for (int i = 0; i < 8; i++) g.book(0, 0);
        school(g, "grow 9");
        due("undo(), none", g.undo(), 0);
        for (int what : new int[] {0, 2, 3, 4}) due("count(" + what + ")", g.count(what), 0);
        due("told(0)", g.told(0), 0);
        due("told(1)", g.told(1), 2);
        due("told(2)", g.told(2), 240);
        due("spin(1)", g.spin(1), 0);
        for (int c = 0; c < 6; c++) due("child(6, 0)", g.child(6, 0), c);
        due("of(5, 2), anew", g.of(5, 2), NEVER);
        due("of(5, 3), anew", g.of(5, 3), 0);
        for (int part = 0; part < 4; part++) due("row, anew", g.row(5, part, 0), 0);
        due("undo(), once more", g.undo(), 0);
        backToSix();
        backToFewer();
        sentence("STATE: there is none.");
        GlobeCorner none = kids(0);
        due("undo()", none.undo(), STATE);
        due("count(0)", none.count(0), 1);
        none.image();
        due("undo(), behind an image", none.undo(), 1);
        due("undo(), the image stays", none.undo(), 1);
    }

    private static void backToSix() {
        GlobeCorner g = kids(6, 6, 6, 6, 6, 6);
        for (int c = 0; c < 6; c++) {
            g.point(c, 11 - c);
            for (int part = 0; part < 4; part++) g.row(c, part, (c + part) % 10);
        }
        passTo(g, 5);
        for (int i = 0; i < 5; i++) g.see(11, 0, i < 4 ? g.spot(11, 0) : 99);
        for (int i = 0; i < 10; i++) g.plan(0, 0);
        for (int i = 0; i < 8; i++) g.book(11, i < 7 ? g.spot(11, 0) : 99);
        for (int i = 0; i < 3; i++) school(g, "grow " + i);
        g.image();
        int ends = g.ends(0);
        for (int i = 3; i < 6; i++) school(g, "grow " + i);
        g.see(-1, 0, 0);
        g.plan(-1, 0);
        g.book(-1, 0);
        g.bell();
        g.pass(1);
        due("undo(), six", g.undo(), 6);
        due("told(0)", g.told(0), 5);
        due("told(1)", g.told(1), 2);
        due("count(1), schools stay", g.count(1), 6);
        due("count(2)", g.count(2), 5);
        due("spot(11, 2), by the fifth row", g.spot(11, 2), 0);
        due("count(3)", g.count(3), 10);
        due("ends(0)", g.ends(0), ends);
        due("ends(1)", g.ends(1), 6 * 15);
        due("looked(), the eighth row", g.looked(), 7);
        for (int c = 0; c < 6; c++) {
            due("of(" + c + ", 2)", g.of(c, 2), 11 - c);
            due("of(" + c + ", 3)", g.of(c, 3), 5);
            for (int part = 0; part < 4; part++) due("row", g.row(c, part, 0), (c + part) % 10);
        }
    }

    private static void backToFewer() {
        GlobeCorner g = kids(0, 0);
        g.image();
        for (int c = 2; c < 6; c++) g.child(1, 9);
        due("told(4), of six", g.told(4), 8 + 4 * 13);
        due("undo()", g.undo(), 2);
        due("told(4), of two again", g.told(4), 8);
        due("told(11)", g.told(11), 1);
        due("told(12), no such child", g.told(12), NONE);
        due("crowd(0, 1), of two", g.crowd(0, 1), NEVER);
    }

    private static void act() {
        part("Promise 28");
        sentence("An ACT (0 points, 1 sees, 2 tells) of a CHILD with x.");
        GlobeCorner g = kids(0, 0, 0, 0, 0, 0);
        due("act(0, 0, 7)", g.act(0, 0, 7), 7);
        due("act(5, 0, HIGH), wrapping", g.act(5, 0, HIGH), LOW + 4);
        due("act(5, 1, 7)", g.act(5, 1, 7), 7);
        due("act(0, 1, LOW), wrapping", g.act(0, 1, LOW), HIGH - 4);
        due("act(5, 2, 7)", g.act(5, 2, 7), 14);
        due("act(5, 2, HIGH), wrapping", g.act(5, 2, HIGH), -2);
        due("count(6)", g.count(6), 3);
        sentence("0, and no TRACE then: no such CHILD, act.");
        int[][] off = {{6, 0}, {-1, 0}, {LOW, 0}, {HIGH, 0}, {0, 3}, {0, -1}, {0, LOW}, {0, HIGH}, {6, 3}};
        for (int[] o : off) {
            g.act(1, 2, 7);
            due("count(6)", g.count(6), 3);
            due("act(" + o[0] + ", " + o[1] + ", 7)", g.act(o[0], o[1], 7), 0);
            due("count(6), no trace then", g.count(6), 0);
            due("trace(0), no trace then", g.trace(0), NONE);
        }
    }

    private static void trace() {
        part("Promise 29");
        sentence("THE TRACE's i-th body.");
        GlobeCorner g = kids(6);
        g.act(0, 2, 0);
        due("trace(0)", g.trace(0), 40);
        due("trace(1)", g.trace(1), 12);
        due("trace(11)", g.trace(11), 10);
        sentence("NONE.");
        dueOfEach("trace(i)", i -> g.trace(i), NONE, -1, 12, 19, 20, 21, LOW, HIGH);
        g.act(0, 0, 0);
        due("trace(1)", g.trace(1), 10);
        due("trace(2), of the act before", g.trace(2), NONE);
        due("trace(0), of a new object", new GlobeCorner().trace(0), NONE);
    }

    private static void taken() {
        part("Promise 30");
        sentence("A CHILD taken for one of KIND k (0 .. 6), or one under that: its KIND.");
        int[][] under = {{0, 0}, {1, 0}, {1, 1}, {2, 0}, {2, 2}, {3, 0}, {3, 3}, {4, 0}, {4, 1}, {4, 4}, {5, 0}, {5, 2},
            {5, 5}, {6, 0}, {6, 3}, {6, 6}};
        boolean[][] fits = new boolean[7][7];
        for (int[] u : under) {
            fits[u[0]][u[1]] = true;
            due("kind " + u[0] + " for " + u[1], kids(u[0]).taken(0, u[1]), u[0]);
        }
        sentence("BAD: k; NOTHING: no such CHILD; CAST.");
        for (int kind = 0; kind < 7; kind++) {
            for (int k = 0; k < 7; k++) {
                if (!fits[kind][k]) due("kind " + kind + " for " + k, kids(kind).taken(0, k), CAST);
            }
        }
        GlobeCorner g = kids(0, 1);
        dueOfEach("taken(0, k)", k -> g.taken(0, k), BAD, -1, 7, LOW, HIGH);
        dueOfEach("taken(2, k)", k -> g.taken(2, k), BAD, -1, 7, LOW, HIGH);
        dueOfEach("taken(c, 0)", c -> g.taken(c, 0), NOTHING, -1, 2, 6, LOW, HIGH);
        dueOfEach("taken(c, 6)", c -> g.taken(c, 6), NOTHING, -1, 2, 6, LOW, HIGH);
    }

    private static void count() {
        part("Promise 31");
        sentence("How many: 0 CHILDREN, 1 SCHOOLS, 2 SEEN, 3 of the PLAN, 4 of the BOOK, 5 bytes of THE TEXT, 6 bodies that "
            + "ran in the latest act().");
        GlobeCorner g = new GlobeCorner();
        for (int what = 0; what < 7; what++) due("count(" + what + "), none", g.count(what), 0);
        for (int c = 0; c < 6; c++) g.child(6, 0);
        for (int i = 0; i < 6; i++) school(g, "grow 1");
        for (int i = 0; i < 5; i++) g.see(0, 0, 0);
        for (int i = 0; i < 10; i++) g.plan(0, 0);
        for (int i = 0; i < 8; i++) g.book(0, 0);
        feed(g, "~".repeat(100));
        g.act(0, 2, 0);
        int[] most = {6, 6, 5, 10, 8, 100, 12};
        for (int what = 0; what < 7; what++) due("count(" + what + "), the most", g.count(what), most[what]);
        sentence("BAD.");
        dueOfEach("count(what)", what -> g.count(what), BAD, -1, 7, LOW, HIGH);
    }

    private static void tape() {
        part("Promise 32");
        sentence("A TAPE becomes a row of n (0 .. 60) of a sort, all 0, or holds nothing (sort -1: n does not matter): 1.");
        GlobeCorner g = new GlobeCorner();
        for (int sort = 0; sort < 5; sort++) {
            due("tape(0, " + sort + ", 60)", g.tape(0, sort, 60), 1);
            due("read(0, 0)", g.read(0, 0), 0);
            due("read(0, 59)", g.read(0, 59), 0);
            due("read(0, 60)", g.read(0, 60), NO);
            g.item(0, 0, 1);
            g.item(0, 59, 1);
        }
        due("tape(0, 4, 60), all 0 again", g.tape(0, 4, 60), 1);
        due("read(0, 0)", g.read(0, 0), 0);
        due("read(0, 59)", g.read(0, 59), 0);
        due("tape(5, 0, 0)", g.tape(5, 0, 0), 1);
        due("read(5, 0), a row of none", g.read(5, 0), NO);
        due("item(5, 0, 0), a row of none", g.item(5, 0, 0), PLACE);
        for (int n : new int[] {0, 60, 61, -1, LOW, HIGH}) {
            g.tape(5, 0, 1);
            due("tape(5, -1, " + n + ")", g.tape(5, -1, n), 1);
            due("read(5, 0)", g.read(5, 0), NO);
            due("item(5, 0, 0)", g.item(5, 0, 0), NOTHING);
        }
        sentence("NONE: tape; BAD: sort, n above 60; SIZE.");
        g.tape(0, 1, 2);
        g.item(0, 1, 7);
        dueOfEach("tape(t, 0, 1)", t -> g.tape(t, 0, 1), NONE, -1, 6, LOW, HIGH);
        dueOfEach("tape(t, -1, 1)", t -> g.tape(t, -1, 1), NONE, -1, 6, LOW, HIGH);
        dueOfEach("tape(0, sort, 1)", sort -> g.tape(0, sort, 1), BAD, -2, 5, LOW, HIGH);
        dueOfEach("tape(0, 5, n)", n -> g.tape(0, 5, n), BAD, -1, 61);
        dueOfEach("tape(0, 0, n)", n -> g.tape(0, 0, n), BAD, 61, HIGH);
        dueOfEach("tape(0, 4, n)", n -> g.tape(0, 4, n), SIZE, -1, LOW);
        due("read(0, 1)", g.read(0, 1), 7);
    }

    private static void item() {
        part("Promise 33");
        sentence("Item i of a TAPE becomes v (its lowest bits, as many as an item has; booleans: whether v is not 0): 1.");
        GlobeCorner g = new GlobeCorner();
        long[] vs = {127, 128, 255, 256, -129, 32767, 32768, 65536, HIGH, 1L << 31, 1L << 32, -1, LOW - 1L,
            Long.MAX_VALUE, Long.MIN_VALUE, 0, 2};
        for (int sort = 0; sort < 5; sort++) {
            g.tape(5, sort, 60);
            for (long v : vs) {
                due("item(5, 59, " + v + ")", g.item(5, 59, v), 1);
                due("read(5, 59), sort " + sort, g.read(5, 59), itemOf(sort, v));
            }
            due("read(5, 58), no other", g.read(5, 58), 0);
        }
        sentence("NONE; NOTHING; PLACE.");
        dueOfEach("item(t, 0, 1)", t -> g.item(t, 0, 1), NONE, -1, 6, LOW, HIGH);
        dueOfEach("item(0, i, 1)", i -> g.item(0, i, 1), NOTHING, -1, 0, 59, 60);
        dueOfEach("item(5, i, 1)", i -> g.item(5, i, 1), PLACE, -1, 60, LOW, HIGH);
        g.tape(5, 3, 1);
        due("item(5, 0, 1)", g.item(5, 0, 1), 1);
        due("item(5, 1, 1)", g.item(5, 1, 1), PLACE);
    }

    private static long itemOf(int sort, long v) {
        long[] items = {(byte) v, (short) v, (int) v, v, v == 0 ? 0 : 1};
        return items[sort];
    }

    private static void read() {
        part("Promise 34");
        sentence("Item i of a TAPE.");
        GlobeCorner g = new GlobeCorner();
        g.tape(0, 3, 60);
        g.item(0, 0, Long.MAX_VALUE);
        g.item(0, 59, Long.MIN_VALUE);
        due("read(0, 0)", g.read(0, 0), Long.MAX_VALUE);
        due("read(0, 59)", g.read(0, 59), Long.MIN_VALUE);
        due("read(0, 58)", g.read(0, 58), 0);
        sentence("NO: no such TAPE, nothing there, no such place.");
        for (int t : new int[] {-1, 6, LOW, HIGH}) due("read(" + t + ", 0)", g.read(t, 0), NO);
        for (int i : new int[] {-1, 60, LOW, HIGH}) due("read(0, " + i + ")", g.read(0, i), NO);
        for (int i : new int[] {-1, 0, 59, LOW, HIGH}) due("read(5, " + i + ")", g.read(5, i), NO);
        g.tape(5, 0, 0);
        due("read(5, 0), a row of none", g.read(5, 0), NO);
    }

    /** Tapes 0 and 1 of five and three shorts, 2 of three ints; 0 has 1 to 5. */
    private static GlobeCorner rows() {
        GlobeCorner g = new GlobeCorner();
        g.tape(0, 1, 5);
        g.tape(1, 1, 3);
        g.tape(2, 2, 3);
        for (int i = 0; i < 5; i++) g.item(0, i, i + 1);
        return g;
    }

    private static void dueRow(GlobeCorner g, int tape, long... items) {
        for (int i = 0; i < items.length; i++) due("read(" + tape + ", " + i + ")", g.read(tape, i), items[i]);
    }

    private static void shift() {
        part("Promise 35");
        sentence("n items of a TAPE from i on come to another one (or the same) from j on, as they all were before: n.");
        GlobeCorner g = rows();
        due("all of it", g.shift(0, 0, 1, 0, 3), 3);
        dueRow(g, 1, 1, 2, 3);
        due("to its end", g.shift(0, 4, 1, 2, 1), 1);
        dueRow(g, 1, 1, 2, 5);
        due("none", g.shift(0, 0, 1, 0, 0), 0);
        due("none, at both ends", g.shift(0, 5, 1, 3, 0), 0);
        dueRow(g, 1, 1, 2, 5);
        dueRow(g, 0, 1, 2, 3, 4, 5);
        due("up in the same", g.shift(0, 0, 0, 1, 4), 4);
        dueRow(g, 0, 1, 1, 2, 3, 4);
        due("down in the same", g.shift(0, 1, 0, 0, 4), 4);
        dueRow(g, 0, 1, 2, 3, 4, 4);
        due("where they are", g.shift(0, 0, 0, 0, 5), 5);
        dueRow(g, 0, 1, 2, 3, 4, 4);
        g.tape(3, 1, 0);
        due("a row of none", g.shift(3, 0, 0, 5, 0), 0);
        shiftRefused();
    }

    private static void shiftRefused() {
        sentence("NONE: tapes; NOTHING; CAST: of unlike sorts; PLACE: n, i or j is below 0, or beyond either's end.");
        GlobeCorner g = rows();
        dueOfEach("shift(t, 0, 0, 0, 0)", t -> g.shift(t, 0, 0, 0, 0), NONE, -1, 6, LOW, HIGH);
        dueOfEach("shift(0, 0, t, 0, 0)", t -> g.shift(0, 0, t, 0, 0), NONE, -1, 6, LOW, HIGH);
        due("shift(5, 0, 0, 0, 0)", g.shift(5, 0, 0, 0, 0), NOTHING);
        due("shift(0, 0, 5, 0, 0)", g.shift(0, 0, 5, 0, 0), NOTHING);
        due("shift(5, 0, 5, 0, 0)", g.shift(5, 0, 5, 0, 0), NOTHING);
        due("shift(0, 0, 2, 0, 1)", g.shift(0, 0, 2, 0, 1), CAST);
        due("shift(2, 0, 0, 0, 0)", g.shift(2, 0, 0, 0, 0), CAST);
        dueOfEach("shift(0, 0, 1, 0, n)", n -> g.shift(0, 0, 1, 0, n), PLACE, -1, 4, 5, 6, LOW, HIGH);
        dueOfEach("shift(0, i, 1, 0, 0)", i -> g.shift(0, i, 1, 0, 0), PLACE, -1, 6, LOW, HIGH);
        dueOfEach("shift(0, 0, 1, j, 0)", j -> g.shift(0, 0, 1, j, 0), PLACE, -1, 4, LOW, HIGH);
        dueOfEach("shift(0, i, 1, 0, 2)", i -> g.shift(0, i, 1, 0, 2), PLACE, -1, 4, 5, HIGH);
        dueOfEach("shift(0, 0, 1, j, 2)", j -> g.shift(0, 0, 1, j, 2), PLACE, -1, 2, 3, HIGH);
        due("shift(0, 3, 0, 0, 3)", g.shift(0, 3, 0, 0, 3), PLACE);
        due("shift(0, HIGH, 1, HIGH, HIGH)", g.shift(0, HIGH, 1, HIGH, HIGH), PLACE);
        due("shift(0, LOW, 1, LOW, LOW)", g.shift(0, LOW, 1, LOW, LOW), PLACE);
        dueRow(g, 0, 1, 2, 3, 4, 5);
        dueRow(g, 1, 0, 0, 0);
    }
}
