/** The third part of the Terms, sentence by sentence: tapes, judging, and what is refused. */
public final class TapesEdgesTest extends Edges {
    public static void main(String[] args) {
        part("Terms 3");
        tapes();
        judged();
        judgedToTheEnd();
        hostRefuses();
        firstThatIsNamed();
        firstThatIsNamedWhenFull();
        noneBelow();
        refusedChangesNothing();
        refusedWhenFull();
        askedChangesNothing();
        no();
        end("Terms 3");
    }

    private static void tapes() {
        sentence("TAPES 0 .. 5 hold nothing (at first), or a row of 0 bytes, 1 shorts, 2 ints, 3 longs, 4 booleans (items "
            + "0, 1).");
        GlobeCorner g = new GlobeCorner();
        for (int t = 0; t < 6; t++) {
            due("item(" + t + ", 0, 1), at first", g.item(t, 0, 1), NOTHING);
            due("read(" + t + ", 0), at first", g.read(t, 0), NO);
        }
        dueOfEach("tape(t, 0, 1)", t -> g.tape(t, 0, 1), NONE, -1, 6, LOW, HIGH);
        dueOfEach("tape(0, sort, 1)", sort -> g.tape(0, sort, 1), BAD, -2, 5, LOW, HIGH);
        long[] most = {127, 32767, HIGH, Long.MAX_VALUE, 1};
        long[] wrapped = {-128, -32768, LOW, Long.MIN_VALUE, 1};
        for (int sort = 0; sort < 5; sort++) {
            due("tape(5, " + sort + ", 1)", g.tape(5, sort, 1), 1);
            due("read, at first", g.read(5, 0), 0);
            g.item(5, 0, most[sort]);
            due("the most of sort " + sort, g.read(5, 0), most[sort]);
            g.item(5, 0, most[sort] + 1);
            due("one more of sort " + sort, g.read(5, 0), wrapped[sort]);
            g.item(5, 0, 0);
            due("0 of sort " + sort, g.read(5, 0), 0);
        }
        due("read(0, 0), still nothing", g.read(0, 0), NO);
    }

    /** Each place needs twice its number and one; the tape tells so from a place on, as far as it goes. */
    private static GlobeCorner told(int from, int items) {
        GlobeCorner g = new GlobeCorner();
        for (int p = 0; p < 12; p++) g.need(p, 2 * p + 1);
        g.tape(5, 0, items);
        for (int i = from; i < items; i++) g.item(5, i, 2 * (i - from) + 1);
        return g;
    }

    private static void judged() {
        sentence("NEED told by a row of bytes, from a place on, PLACE by PLACE, is JUDGED: the first that is otherwise; -5: "
            + "none; 100 and how many were looked at, if the row ends ahead of that (or the place is below 0, or the TAPE "
            + "holds nothing).");
        due("just twelve", told(0, 12).judge(5, 0), NEVER);
        due("more than twelve", told(0, 13).judge(5, 0), NEVER);
        due("the last twelve of 60", told(48, 60).judge(5, 48), NEVER);
        for (int p = 0; p < 12; p++) {
            GlobeCorner g = told(3, 15);
            g.need(p, 0);
            due("place " + p + " is otherwise", g.judge(5, 3), p);
            g.need(11, 0);
            due("place " + p + " and 11 are otherwise", g.judge(5, 3), p);
            due("the row ends behind place " + p, told(0, p).judge(5, 0), 100 + p);
        }
        GlobeCorner g = told(0, 12);
        due("one further on", g.judge(5, 1), 0);
        g.item(5, 0, -1);
        due("below 0 on the tape", g.judge(5, 0), 0);
        g.item(5, 0, 256 + 1);
        due("its lowest bits", g.judge(5, 0), NEVER);
        g.need(11, 99);
        g.item(5, 11, 99);
        due("the most", g.judge(5, 0), NEVER);
    }

    private static void judgedToTheEnd() {
        GlobeCorner g = told(49, 60);
        due("eleven looked at", g.judge(5, 49), 111);
        g.need(10, 0);
        due("the eleventh is otherwise", g.judge(5, 49), 10);
        GlobeCorner last = new GlobeCorner();
        last.tape(5, 0, 60);
        last.item(5, 59, 20);
        due("one looked at", last.judge(5, 59), 101);
        due("at the end", last.judge(5, 60), 100);
        due("beyond the end", last.judge(5, 61), 100);
        dueOfEach("judge(5, i)", i -> last.judge(5, i), 100, -1, -2, LOW, HIGH, HIGH - 11);
        last.tape(5, 0, 0);
        due("a row of none", last.judge(5, 0), 100);
        due("nothing", last.judge(0, 0), 100);
        due("nothing, below 0", last.judge(0, -1), 100);
        due("nothing, far off", last.judge(0, HIGH), 100);
    }

    private static void hostRefuses() {
        sentence("The host's refusals: NOTHING (-11): nothing is there; CAST (-12): another sort or KIND; PLACE (-13): no "
            + "such place; SIZE (-14): a size below 0.");
        GlobeCorner g = kids(0);
        g.tape(0, 0, 2);
        g.tape(1, 1, 2);
        due("item(5, 0, 0)", g.item(5, 0, 0), -11);
        due("shift(0, 0, 5, 0, 1)", g.shift(0, 0, 5, 0, 1), -11);
        due("taken(1, 0)", g.taken(1, 0), -11);
        due("shift(0, 0, 1, 0, 1)", g.shift(0, 0, 1, 0, 1), -12);
        due("judge(1, 0)", g.judge(1, 0), -12);
        due("taken(0, 1)", g.taken(0, 1), -12);
        due("item(0, 2, 0)", g.item(0, 2, 0), -13);
        due("item(0, -1, 0)", g.item(0, -1, 0), -13);
        due("shift(0, 2, 0, 0, 1)", g.shift(0, 2, 0, 0, 1), -13);
        due("tape(0, 0, -1)", g.tape(0, 0, -1), -14);
    }

    private static void firstThatIsNamed() {
        sentence("Answers: NONE (-1) no such number; BAD (-2) a number is not as told; STATE (-3) as told; FULL (-4); the "
            + "first that a call's words name.");
        GlobeCorner g = kids(0);
        g.tape(0, 0, 2);
        g.tape(1, 1, 2);
        due("child(7, 10)", g.child(7, 10), NONE);
        due("need(12, 100)", g.need(12, 100), NONE);
        due("row(1, 0, 10)", g.row(1, 0, 10), NONE);
        due("row(0, 4, 10)", g.row(0, 4, 10), NONE);
        due("row(0, 0, 10), another kind", g.row(0, 0, 10), BAD);
        due("row(0, 0, 9), another kind", g.row(0, 0, 9), STATE);
        due("on(61, 2)", g.on(61, 2), NONE);
        due("crowd(12, 13)", g.crowd(12, 13), NONE);
        due("see(12, 13, 100)", g.see(12, 13, 100), NONE);
        due("book(12, 100)", g.book(12, 100), NONE);
        due("taken(1, 7)", g.taken(1, 7), BAD);
        due("tape(6, 5, -1)", g.tape(6, 5, -1), NONE);
        due("tape(0, 5, -1)", g.tape(0, 5, -1), BAD);
        due("item(6, -1, 0)", g.item(6, -1, 0), NONE);
        due("item(5, -1, 0)", g.item(5, -1, 0), NOTHING);
        due("judge(6, -1)", g.judge(6, -1), NONE);
        due("judge(1, -1)", g.judge(1, -1), CAST);
        due("shift(5, -1, 6, 0, 0)", g.shift(5, -1, 6, 0, 0), NONE);
        due("shift(6, -1, 5, 0, 0)", g.shift(6, -1, 5, 0, 0), NONE);
        due("shift(0, -1, 5, 0, 0)", g.shift(0, -1, 5, 0, 0), NOTHING);
        due("shift(5, -1, 1, 0, 0)", g.shift(5, -1, 1, 0, 0), NOTHING);
        due("shift(0, -1, 1, 0, 0)", g.shift(0, -1, 1, 0, 0), CAST);
        due("shift(0, -1, 0, 0, 0)", g.shift(0, -1, 0, 0, 0), PLACE);
        due("undo()", g.undo(), STATE);
    }

    private static void firstThatIsNamedWhenFull() {
        GlobeCorner g = full();
        due("child(7, 10), full", g.child(7, 10), NONE);
        due("child(0, 10), full", g.child(0, 10), BAD);
        due("child(0, 9), full", g.child(0, 9), FULL);
        due("feed(128), full", g.feed(128), BAD);
        due("feed(127), full", g.feed(127), FULL);
        due("school(), full and faulty", g.school(), FULL);
        due("see(12, 0, 0), full", g.see(12, 0, 0), NONE);
        due("see(0, 13, 0), full", g.see(0, 13, 0), BAD);
        due("see(0, 0, 100), full", g.see(0, 0, 100), BAD);
        due("see(0, 0, 0), full", g.see(0, 0, 0), FULL);
        due("plan(4, 0), full", g.plan(4, 0), NONE);
        due("plan(1, 6), full", g.plan(1, 6), NONE);
        due("plan(3, 12), full", g.plan(3, 12), NONE);
        due("plan(2, 12), full", g.plan(2, 12), BAD);
        for (int what = 0; what < 4; what++) due("plan(" + what + ", 0), full", g.plan(what, 0), FULL);
        due("book(12, 0), full", g.book(12, 0), NONE);
        due("book(0, 100), full", g.book(0, 100), BAD);
        due("book(0, 0), full", g.book(0, 0), FULL);
        GlobeCorner late = new GlobeCorner();
        passTo(late, 9999);
        due("pass(61) at 9999", late.pass(61), BAD);
        due("pass(-1) at 9999", late.pass(-1), BAD);
        due("pass(60) at 9999", late.pass(60), STATE);
    }

    private static void noneBelow() {
        sentence("Where it may be below 0, -10001 stands for NONE.");
        GlobeCorner g = taught("less 5 p=0", 0);
        due("of(0, 10), which is no refusal", g.of(0, 10), -1);
        dueOfEach("of(c, 0)", c -> g.of(c, 0), -10001, -1, 1, LOW, HIGH);
        dueOfEach("of(0, what)", what -> g.of(0, what), -10001, -1, 4, 9, 22, LOW, HIGH);
        dueOfEach("of(1, what)", what -> g.of(1, what), -10001, 0, 3, 10, 21, 22);
    }

    // ---- what changes nothing

    /** As much of everything as there can be. */
    private static GlobeCorner full() {
        GlobeCorner g = some();
        for (int c = 3; c < 6; c++) g.child(c, c);
        school(g, "ore 1 p=5");
        for (int i = 1; i < 5; i++) school(g, "grow " + i);
        feed(g, "more 5 p=0;".repeat(9) + "~");
        while (g.see(3, 2, 22) > 0) continue;
        while (g.plan(3, 5) > 0) continue;
        while (g.book(1, 22) > 0) continue;
        return g;
    }

    /** Some of everything, and an image that is otherwise. */
    private static GlobeCorner some() {
        GlobeCorner g = kids(0, 6, 4);
        g.need(7, 70);
        g.image();
        school(g, "more 3 x<6");
        for (int c = 0; c < 3; c++) g.point(c, c * 4);
        g.row(1, 2, 3);
        g.need(7, 77);
        g.pass(1);
        g.see(0, 1, 17);
        g.plan(0, 0);
        g.book(1, 22);
        g.feed('m');
        g.act(1, 2, 5);
        for (int t = 0; t < 5; t++) {
            g.tape(t, t, 2);
            g.item(t, 1, 1);
        }
        return g;
    }

    /** All that can be asked for, and then all that the image holds. */
    private static String all(GlobeCorner g) {
        StringBuilder s = new StringBuilder();
        for (int i = 0; i < 12; i++) s.append(g.trace(i)).append(' ');
        for (int t = 0; t < 6; t++) for (int i = 0; i < 3; i++) s.append(g.read(t, i)).append(' ');
        for (int what = 0; what < 7; what++) s.append(g.count(what)).append(' ');
        for (int c = 0; c < 6; c++) for (int p = 0; p < 4; p++) s.append(g.of(c, 10 + p)).append(' ');
        now(g, s);
        s.append(g.undo()).append(' ').append(g.count(1)).append(' ').append(g.count(5)).append(' ');
        now(g, s);
        return s.toString();
    }

    private static void now(GlobeCorner g, StringBuilder s) {
        for (int what = 0; what < 4; what++) s.append(g.told(what)).append(' ');
        for (int p = 0; p < 12; p++) s.append(g.spot(p, 0)).append(' ');
        for (int c = 0; c < 6; c++) for (int what = 0; what < 4; what++) s.append(g.of(c, what)).append(' ');
        s.append(g.spot(0, 2)).append(' ').append(g.spot(0, 3)).append(' ').append(g.looked()).append(' ');
        s.append(g.ends(0)).append(' ').append(g.ends(1)).append(' ');
    }

    private static void leavesAll(String call, Call made, long want) {
        GlobeCorner g = some();
        due(call, made.of(g), want);
        due("all, behind " + call, all(g), all(some()));
    }

    private static void refusedChangesNothing() {
        sentence("What is answered so changes nothing; what is asked changes nothing.");
        leavesAll("child(7, 0)", g -> g.child(7, 0), NONE);
        leavesAll("child(0, 10)", g -> g.child(0, 10), BAD);
        leavesAll("point(3, 1)", g -> g.point(3, 1), NONE);
        leavesAll("point(0, 12)", g -> g.point(0, 12), NONE);
        leavesAll("point(0, -2)", g -> g.point(0, -2), NONE);
        leavesAll("need(12, 1)", g -> g.need(12, 1), NONE);
        leavesAll("need(0, 100)", g -> g.need(0, 100), BAD);
        leavesAll("spin(12)", g -> g.spin(12), BAD);
        leavesAll("spin(-1)", g -> g.spin(-1), BAD);
        leavesAll("row(1, 4, 1)", g -> g.row(1, 4, 1), NONE);
        leavesAll("row(1, 0, 10)", g -> g.row(1, 0, 10), BAD);
        leavesAll("row(0, 0, 1)", g -> g.row(0, 0, 1), STATE);
        leavesAll("feed(128)", g -> g.feed(128), BAD);
        leavesAll("pass(61)", g -> g.pass(61), BAD);
        leavesAll("pass(-1)", g -> g.pass(-1), BAD);
        leavesAll("see(12, 0, 0)", g -> g.see(12, 0, 0), NONE);
        leavesAll("see(-2, 0, 0)", g -> g.see(-2, 0, 0), NONE);
        leavesAll("see(0, 13, 0)", g -> g.see(0, 13, 0), BAD);
        leavesAll("see(0, 0, 100)", g -> g.see(0, 0, 100), BAD);
        leavesAll("plan(4, 0)", g -> g.plan(4, 0), NONE);
        leavesAll("plan(-2, 0)", g -> g.plan(-2, 0), NONE);
        leavesAll("plan(1, 3)", g -> g.plan(1, 3), NONE);
        leavesAll("plan(2, 12)", g -> g.plan(2, 12), BAD);
        leavesAll("plan(3, 12)", g -> g.plan(3, 12), NONE);
        leavesAll("book(12, 0)", g -> g.book(12, 0), NONE);
        leavesAll("book(0, 100)", g -> g.book(0, 100), BAD);
        leavesAll("tape(6, 0, 1)", g -> g.tape(6, 0, 1), NONE);
        leavesAll("tape(0, 5, 1)", g -> g.tape(0, 5, 1), BAD);
        leavesAll("tape(0, 0, 61)", g -> g.tape(0, 0, 61), BAD);
        leavesAll("tape(0, 0, -1)", g -> g.tape(0, 0, -1), SIZE);
        leavesAll("item(0, 2, 7)", g -> g.item(0, 2, 7), PLACE);
        leavesAll("item(5, 0, 7)", g -> g.item(5, 0, 7), NOTHING);
        leavesAll("shift(0, 1, 1, 0, 1)", g -> g.shift(0, 1, 1, 0, 1), CAST);
        leavesAll("shift(0, 1, 5, 0, 1)", g -> g.shift(0, 1, 5, 0, 1), NOTHING);
        leavesAll("shift(0, 1, 0, 0, 2)", g -> g.shift(0, 1, 0, 0, 2), PLACE);
        leavesAll("shift(0, 0, 0, 1, 2)", g -> g.shift(0, 0, 0, 1, 2), PLACE);
        GlobeCorner none = kids(0);
        due("undo(), no image", none.undo(), STATE);
        due("count(0)", none.count(0), 1);
    }

    private static void refusedWhenFull() {
        Call[] refused = {g -> g.child(0, 9), g -> g.feed('x'), g -> g.school(), g -> g.see(0, 0, 0), g -> g.plan(0, 0),
            g -> g.plan(1, 0), g -> g.plan(2, 1), g -> g.plan(3, 1), g -> g.book(0, 0)};
        String before = all(full());
        for (int i = 0; i < refused.length; i++) {
            GlobeCorner g = full();
            due("refusal " + i, refused[i].of(g), FULL);
            due("all, behind refusal " + i, all(g), before);
        }
        GlobeCorner late = kids(0);
        late.point(0, 0);
        passTo(late, 9998);
        late.need(0, 50);
        due("pass(2) at 9998", late.pass(2), STATE);
        due("told(0)", late.told(0), 9998);
        due("spot(0, 0)", late.spot(0, 0), 50);
        due("of(0, 3)", late.of(0, 3), 9998);
    }

    private static void askedChangesNothing() {
        Call[] asked = {g -> g.of(2, 10), g -> g.spot(0, 1), g -> g.spot(0, 2), g -> g.spot(4, 3), g -> g.told(4),
            g -> g.told(12), g -> g.on(60, 0), g -> g.on(60, 1), g -> g.on(60, 10), g -> g.crowd(0, 12), g -> g.turn(12),
            g -> g.can(0, 0), g -> g.can(1, 1), g -> g.odds(0, 0, 20, 0), g -> g.mean(60, 1), g -> g.ends(0),
            g -> g.ends(1), g -> g.looked(), g -> g.judge(0, 0), g -> g.trace(3), g -> g.taken(1, 3), g -> g.count(0),
            g -> g.read(0, 1), g -> g.read(6, 1)};
        String before = all(some());
        for (int i = 0; i < asked.length; i++) {
            GlobeCorner g = some();
            asked[i].of(g);
            due("all, behind question " + i, all(g), before);
        }
    }

    private static void no() {
        sentence("The constants: `NO = Long.MIN_VALUE`: There is no such number.");
        due("NO", GlobeCorner.NO, Long.MIN_VALUE);
        GlobeCorner g = new GlobeCorner();
        due("read(0, 0)", g.read(0, 0), Long.MIN_VALUE);
        due("mean(61, 0)", g.mean(61, 0), Long.MIN_VALUE);
        due("odds(0, 0, 0, 0)", g.odds(0, 0, 0, 0), Long.MIN_VALUE);
        due("NONE", GlobeCorner.NONE, -1);
        due("BAD", GlobeCorner.BAD, -2);
        due("STATE", GlobeCorner.STATE, -3);
        due("FULL", GlobeCorner.FULL, -4);
    }
}
