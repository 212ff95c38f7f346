/** The first part of the Terms, sentence by sentence: what is just within each bound, and what is just beyond. */
public final class TermsEdgesTest extends Edges {
    public static void main(String[] args) {
        part("Terms 1");
        places();
        children();
        hourAtFirst();
        texts();
        blanksAndDigits();
        either();
        both();
        letters();
        testsAndSigns();
        together();
        nesting();
        faults();
        newest();
        grow();
        sum();
        careOfChild();
        careOfGood();
        careOfBad();
        careOfDreamy();
        careOfMonitor();
        careOfSulky();
        careOfTold();
        anHourGoes();
        anHourGoesByHowAllIsAhead();
        stood();
        hourIsMore();
        spins();
        end("Terms 1");
    }

    // ---- places, children

    private static void places() {
        sentence("11 lie in a ring (behind 11 is 0), each with a NEED (0 .. 99; 20 at first).");
        GlobeCorner g = kids(0);
        for (int p = 0; p < 12; p++) due("spot(" + p + ", 0), at first", g.spot(p, 0), 20);
        dueOfEach("spot(p, 0)", p -> g.spot(p, 0), NONE, -1, 12, LOW, HIGH);
        due("need(11, 0)", g.need(11, 0), 20);
        due("need(11, 99)", g.need(11, 99), 0);
        dueOfEach("need(11, n)", n -> g.need(11, n), BAD, -1, 100, LOW, HIGH);
        due("spot(11, 0)", g.spot(11, 0), 99);
        due("point(0, 11)", g.point(0, 11), NEVER);
        due("spin(1)", g.spin(1), 1);
        due("of(0, 2), behind 11", g.of(0, 2), 0);
    }

    private static void children() {
        sentence("CHILDREN 0 .. 5, as they come, are of KINDS: 0 CHILD; 1 GOOD, 2 BAD, 3 DREAMY under CHILD; "
            + "4 MONITOR under GOOD; 5 SULKY under BAD; 6 TOLD under DREAMY; with a number v (0 .. 9), a FINGER on a "
            + "PLACE, or on none (none at first), STOOD (how many HOURS it had a FINGER on some PLACE, 0 .. 9999; 0 at "
            + "first).");
        GlobeCorner g = new GlobeCorner();
        dueOfEach("child(kind, 0)", kind -> g.child(kind, 0), NONE, -1, 7, LOW, HIGH);
        dueOfEach("child(0, v)", v -> g.child(0, v), BAD, -1, 10, LOW, HIGH);
        int[] kinds = {6, 0, 4, 5, 1, 2};
        int[] vs = {0, 9, 1, 8, 0, 9};
        for (int c = 0; c < 6; c++) due("child, as they come", g.child(kinds[c], vs[c]), c);
        due("child(3, 0), the seventh", g.child(3, 0), FULL);
        for (int c = 0; c < 6; c++) {
            due("of(" + c + ", 0)", g.of(c, 0), kinds[c]);
            due("of(" + c + ", 1)", g.of(c, 1), vs[c]);
            due("of(" + c + ", 2), none at first", g.of(c, 2), NEVER);
            due("of(" + c + ", 3), 0 at first", g.of(c, 3), 0);
        }
        due("told under dreamy", g.taken(0, 3), 6);
        due("monitor under good", g.taken(2, 1), 4);
        due("sulky under bad", g.taken(3, 2), 5);
        due("monitor is not under bad", g.taken(2, 2), CAST);
        g.point(0, 0);
        g.pass(2);
        g.point(0, 11);
        g.pass(3);
        g.point(0, -1);
        g.pass(4);
        due("of(0, 3), hours on some place", g.of(0, 3), 5);
        due("of(1, 3), on none", g.of(1, 3), 0);
        GlobeCorner late = kids(0);
        late.point(0, 0);
        passTo(late, 9999);
        due("of(0, 3), the most", late.of(0, 3), 9999);
    }

    private static void hourAtFirst() {
        sentence("HOUR: 0 at first.");
        due("told(0)", new GlobeCorner().told(0), 0);
    }

    // ---- texts

    private static int read(String text) {
        return school(kids(0), text);
    }

    /** What is ahead is how some school begins, but not with what comes then. */
    private static void fault(String ahead, String then) {
        GlobeCorner g = new GlobeCorner();
        due("\"" + ahead + then + "\"", school(g, ahead + then), -10 - ahead.length());
        due("count(1)", g.count(1), 0);
    }

    /** Of child 0 for place 0, by a text. */
    private static int care(String text) {
        return taught(text, 0).of(0, 10);
    }

    private static void texts() {
        sentence("A SCHOOL is read from THE TEXT (bytes, 100 at most): CLAUSES, 1 to 10, with ; between: more n E; "
            + "less n E; grow n (one blank ahead of each part behind the word; n 1 or 2 digits).");
        String last = "more 7 " + "p=1|".repeat(21) + "p=11|p<01";
        due("bytes", last.length(), 100);
        GlobeCorner g = kids(0);
        feed(g, last);
        due("feed, a byte behind 100", g.feed('0'), FULL);
        due("school of 100 bytes", g.school(), 0);
        due("of(0, 10), by the last byte", g.of(0, 10), 11);

        String digit = "less 44 " + "p=1|".repeat(21) + "p=11|p<1";
        due("bytes", digit.length(), 100);
        due("school of 100 bytes with one digit at its end", school(g, digit), 1);
        due("of(0, 10), by the last byte", g.of(0, 10), -40);

        due("no clause", read(""), -10);
        due("1 clause", read("grow 1"), 0);
        String nine = "grow 1" + ";grow 1".repeat(8);
        due("10 clauses, the tenth counts: care", care(nine + ";more 5 p=0"), 9);
        due("10 clauses, the tenth counts: less", care(nine + ";less 5 p=0"), -1);
        due("10 clauses, the tenth counts: grow", taught(nine + ";grow 8").told(1), 8);
        due("10 clauses, the first counts", care("more 5 p=0;" + nine), 9);
        fault(nine + ";grow 8", ";grow 9");
        fault(nine + ";grow 8", ";");
        fault(nine + ";more 5 p=0", ";");

        fault("", ";grow 1");
        fault("grow 1;", "");
        fault("grow 1;", ";grow 1");
        fault("grow 1", ",grow 1");
        fault("grow 1", "grow 1");
        fault("grow 1;", " grow 1");
        fault("more 1 p=0", " ;grow 1");
    }

    private static void blanksAndDigits() {
        fault("", " more 1 p=0");
        fault("more", "1 p=0");
        fault("more ", " 1 p=0");
        fault("more 1", "p=0");
        fault("more 1 ", " p=0");
        fault("more 1 p=0", " ");
        fault("less", "1 p=0");
        fault("less ", " 1 p=0");
        fault("less 1", "p=0");
        fault("less 1 ", " p=0");
        fault("grow", "1");
        fault("grow ", " 1");
        fault("grow 1", " ");
        fault("more ", "p=0");
        fault("more 12", "3 p=0");
        fault("less ", "p=0");
        fault("less 12", "3 p=0");
        fault("grow ", ";grow 1");
        fault("grow ", "");
        fault("grow 12", "3");
        fault("grow ", "-1");
        fault("more 1", ".5 p=0");
        fault("more 12", ";grow 1");
        fault("grow 1", " p=0");
        due("more 0", care("more 0 p=0"), 4);
        due("more 00", care("more 00 p=0"), 4);
        due("more 9", care("more 9 p=0"), 13);
        due("more 09", care("more 09 p=0"), 13);
        due("more 10", care("more 10 p=0"), 14);
        due("more 99", care("more 99 p=0"), 103);
        due("less 0", care("less 0 p=0"), 4);
        due("less 99", care("less 99 p=0"), -95);
    }

    private static void either() {
        sentence("E: T or T|E.");
        due("one", care("more 1 p=0"), 5);
        due("the first", care("more 1 p=0|p=1"), 5);
        due("the last", care("more 1 p=1|p=0"), 5);
        due("neither", care("more 1 p=1|p=2"), 4);
        due("both", care("more 1 p=0|p<1"), 5);
        due("the first of many", care("more 1 p=0|" + "p=1|".repeat(20) + "p=1"), 5);
        due("the last of many", care("more 1 " + "p=1|".repeat(21) + "p=0"), 5);
        due("none of many", care("more 1 " + "p=1|".repeat(21) + "p=1"), 4);
        fault("more 1 ", "|p=0");
        fault("more 1 p=0|", "|p=0");
        fault("more 1 p=0|", "");
        fault("more 1 p=0|", ";grow 1");
        fault("more 1 p=0|", ")");
    }

    private static void both() {
        sentence("T: F or F&T.");
        due("one", care("more 1 p=1"), 4);
        due("the first alone", care("more 1 p=0&p=1"), 4);
        due("the last alone", care("more 1 p=1&p=0"), 4);
        due("neither", care("more 1 p=1&p=2"), 4);
        due("both", care("more 1 p=0&p<1"), 5);
        due("all of many", care("more 1 " + "p=0&".repeat(21) + "p=0"), 5);
        due("all of many but the first", care("more 1 p=1&" + "p=0&".repeat(20) + "p=0"), 4);
        due("all of many but the last", care("more 1 " + "p=0&".repeat(21) + "p=1"), 4);
        due("closer than |, ahead", care("more 1 p=1&p=1|p=0"), 5);
        due("closer than |, behind", care("more 1 p=0|p=1&p=1"), 5);
        fault("more 1 ", "&p=0");
        fault("more 1 p=0&", "&p=0");
        fault("more 1 p=0&", "|p=0");
        fault("more 1 p=0|", "&p=0");
        fault("more 1 p=0&", "");
        fault("more 1 p=0&", ";grow 1");
    }

    /** Whether a condition holds of the one with a number, a kind and v, and a place with a need at an hour. */
    private static void holds(String condition, int[] one, int[] place, boolean want) {
        GlobeCorner g = new GlobeCorner();
        for (int c = 0; c < one[0]; c++) g.child(0, 0);
        g.child(one[1], one[2]);
        passTo(g, place[2]);
        g.need(place[0], place[1]);
        int without = g.of(one[0], 10 + place[0]);
        int read = school(g, "more 40 " + condition);
        due(condition + " is read", read, 0);
        due(condition, g.of(one[0], 10 + place[0]) != without ? 1 : 0, want ? 1 : 0);
    }

    private static void letters() {
        sentence("F: !F, (E), or a TEST: a letter, < or = or >, a number (1 or 2 digits): of a CHILD and a PLACE p the "
            + "number of the one, k its KIND, v its v, x the number of the other, n its NEED by 10 (cut), h HOUR modulo "
            + "10.");
        int[] least = {0, 0, 0};
        int[] most = {5, 6, 9};
        int[] place = {11, 99, 10};
        int[] first = {0, 0, 0};
        String[] letters = {"p", "k", "v"};
        for (int i = 0; i < 3; i++) {
            exactly(letters[i], 0, least, first);
            exactly(letters[i], most[i], most, first);
        }
        exactly("x", 0, least, first);
        exactly("x", 11, least, place);
        int[][] needs = {{0, 0}, {9, 0}, {10, 1}, {19, 1}, {89, 8}, {90, 9}, {99, 9}};
        for (int[] n : needs) exactly("n", n[1], least, new int[] {3, n[0], 0});
        int[][] hours = {{0, 0}, {1, 1}, {9, 9}, {10, 0}, {19, 9}, {9998, 8}, {9999, 9}};
        for (int[] h : hours) exactly("h", h[1], least, new int[] {3, 20, h[0]});
    }

    /** A letter stands for this number, not for the one below or above. */
    private static void exactly(String letter, int n, int[] one, int[] place) {
        holds(letter + "=" + n, one, place, true);
        holds(letter + "<" + n, one, place, false);
        holds(letter + ">" + n, one, place, false);
        holds(letter + "<" + (n + 1), one, place, true);
        if (n > 0) holds(letter + ">" + (n - 1), one, place, true);
    }

    /** Of & | ! and ( together, for every way that four tests can come out. */
    private static void together() {
        int[] one = {3, 0, 7};
        int[] place = {4, 50, 2};
        for (int bits = 0; bits < 16; bits++) {
            boolean a = (bits & 1) > 0, b = (bits & 2) > 0, c = (bits & 4) > 0, d = (bits & 8) > 0;
            String p = a ? "p=3" : "p<3", q = b ? "x=4" : "x>4", r = c ? "v=7" : "v=6", s = d ? "n>4" : "n<5";
            holds(p + "|" + q + "&" + r + "|" + s, one, place, a || b && c || d);
            holds(p + "&" + q + "|" + r + "&" + s, one, place, a && b || c && d);
            holds("(" + p + "|" + q + ")&(" + r + "|" + s + ")", one, place, (a || b) && (c || d));
            holds(p + "&(" + q + "|" + r + "&" + s + ")", one, place, a && (b || c && d));
            holds(p + "&(" + q + "|(" + r + "|" + s + "))", one, place, a && (b || c || d));
            holds(p + "|(" + q + "&(" + r + "|" + s + "))", one, place, a || b && (c || d));
            holds("!" + p + "&" + q + "|!(" + r + "&!" + s + ")", one, place, !a && b || !(c && !d));
            holds("!!" + p + "&!(" + q + "|!(" + r + "|" + s + "))", one, place, a && !(b || !(c || d)));
        }
    }

    private static void testsAndSigns() {
        int[] one = {3, 0, 7};
        int[] place = {4, 50, 2};
        holds("p=03", one, place, true);
        holds("p<99&k<99&v<99&x<99&n<99&h<99", one, place, true);
        holds("p>99|k>99|v>99|x>99|n>99|h>99", one, place, false);
        holds("p=99|k=99|v=99|x=99|n=99|h=99", one, place, false);
        holds("p=3&k=0&v=7&x=4&n=5&h=2", one, place, true);
        holds("!p=3", one, place, false);
        holds("!p=2", one, place, true);
        holds("!!p=3", one, place, true);
        holds("(p=3)", one, place, true);
        holds("(p=2)", one, place, false);
        holds("!p=2|p=3", one, place, true);
        holds("!(p=2|p=3)", one, place, false);
        holds("!p=3&p=2", one, place, false);
        holds("!(p=3&p=2)", one, place, true);
        for (String sign : new String[] {"q", "P", "0", "=", " ", ")", "/", "~"}) fault("more 1 ", sign + "=1");
        for (String sign : new String[] {"!", "0", " ", ";", "?", "p"}) fault("more 1 p", sign + "1");
        for (String sign : new String[] {"=", ">", "-1", " 1", "p", ";", ")"}) fault("more 1 p<", sign);
        for (String letter : "p k v x n h".split(" ")) fault("more 1 " + letter + "=12", "3");
        fault("more 1 p=", "");
        fault("more 1 p", "");
        fault("more 1 !", "");
        fault("more 1 !", ")");
        fault("more 1 !", "&p=0");
        fault("more 1 (", ")");
        fault("more 1 (p=0", "");
        fault("more 1 (p=0", ";grow 1");
        fault("more 1 (p=0)", ")");
        fault("more 1 (p=0)", "(p=0)");
        fault("more 1 (p=0)", "p=0");
        fault("more 1 p=0", "(p=0)");
        fault("more 1 p=0", "!p=0");
    }

    private static void nesting() {
        sentence("A ( or ! within 4 others is none.");
        for (String four : new String[] {"((((p=0))))", "!!!!p=0", "!(!(p=0))", "(!(!p=0))", "(((!p=1)))", "!!!(p=1)",
            "!(((p=1)))", "((!!p=0))"}) {
            due(four, care("more 1 " + four), 5);
            due(four + ", and side by side", care("more 1 " + four + "&" + four + "|p=1&" + four), 5);
        }
        due("many side by side", care("more 1 !p=1" + "&!p=1".repeat(10) + "&(p=0)&(p=0)&(p=0)&(p=0)&(p=0)"), 5);
        due("in a later clause again", care("more 1 ((((p=0))));less 3 ((((p=0))));more 9 !!!!p=0"), 11);
        fault("more 1 ((((", "(p=0)))))");
        fault("more 1 !!!!", "!p=0");
        fault("more 1 ((((", "!p=0))))");
        fault("more 1 !!!!", "(p=0)");
        fault("more 1 !(!(", "!p=0))");
        fault("more 1 (!(!", "(p=0)))");
        fault("more 1 !(!(p=0&", "!p=0))");
        fault("more 1 ((((p=0)|p=0&(p=0|", "(");
        fault("more 1 ((((p=0|", "(p=0)))))");
        fault("more 1 !!!!p=0&!!!!", "!p=0");
        fault("more 1 ((((p=0))))|!!!!p=0&((((", "(");
        fault("grow 1;less 1 !p=0;more 1 (!!!", "!");
    }

    private static void faults() {
        sentence("The FAULT: the place of the first byte with which none begins so (the end of THE TEXT, if it ends too "
            + "early).");
        String text = "more 12 !(p=0|k<3)&v>9;less 1 x=11;grow 50";
        for (int i = 0; i < text.length(); i++) {
            for (char sign : new char[] {0, '~', 127}) {
                fault(text.substring(0, i), sign + text.substring(i + 1));
            }
        }
        String[] wholes = {"more 12 !(p=0|k<3)", "more 12 !(p=0|k<3)&v>9", "more 12 !(p=0|k<3)&v>9;less 1 x=1",
            "more 12 !(p=0|k<3)&v>9;less 1 x=11", "more 12 !(p=0|k<3)&v>9;less 1 x=11;grow 5", text};
        for (int i = 0; i <= text.length(); i++) {
            boolean whole = false;
            for (String w : wholes) whole |= w.length() == i;
            due("the first " + i + " bytes", read(text.substring(0, i)), whole ? 0 : -10 - i);
        }
        // The words differ from their first byte on: each is followed to its own end.
        for (String word : new String[] {"more ", "less ", "grow "}) {
            for (int i = 0; i < word.length(); i++) {
                for (char sign : "molesgrw 1;".toCharArray()) {
                    boolean begins = sign == word.charAt(i) || i == 0 && (sign == 'm' || sign == 'l' || sign == 'g');
                    if (!begins) fault(word.substring(0, i), sign + "1");
                }
            }
        }
        String ahead = "more 7 " + "p=1|".repeat(22);
        fault(ahead + "p=1", "~");
        fault(ahead + "p=1;", "~");
        fault(ahead + "p=1;", "");
        fault(ahead + "p=1;g", "");
        fault(ahead + "p=12|", "");
    }

    private static void newest() {
        sentence("The newest SCHOOL holds (6 at most); without one there are no CLAUSES.");
        GlobeCorner g = kids(0);
        due("of(0, 10), without one", g.of(0, 10), 4);
        due("told(1), without one", g.told(1), 2);
        for (int i = 0; i < 6; i++) {
            due("school " + i, school(g, "more " + (i + 1) + " p=0"), i);
            due("of(0, 10), by the newest", g.of(0, 10), 5 + i);
        }
        due("a seventh", school(g, "more 9 p=0"), FULL);
        due("of(0, 10), by the sixth", g.of(0, 10), 10);
        due("count(1)", g.count(1), 6);
    }

    private static void grow() {
        sentence("GROW (2 without): the last one's n.");
        due("without a school", new GlobeCorner().told(1), 2);
        due("without a grow", taught("more 1 p=0").told(1), 2);
        due("grow 0", taught("grow 0").told(1), 0);
        due("grow 00", taught("grow 00").told(1), 0);
        due("grow 99", taught("grow 99").told(1), 99);
        due("the last of two", taught("grow 9;grow 4").told(1), 4);
        due("the last of three", taught("grow 4;grow 9;more 1 p=0;grow 0;less 1 p=0").told(1), 0);
        GlobeCorner g = taught("grow 9");
        school(g, "more 1 p=0");
        due("without a grow in the newest", g.told(1), 2);
        school(g, "grow 8;grow 1;");
        due("behind a faulty one", g.told(1), 2);
    }

    private static void sum() {
        sentence("SUM of a CHILD and a PLACE: 4, and the n of all more whose E holds, less those of all less, together "
            + "(may be below 0).");
        due("no clause", kids(0).of(0, 10), 4);
        due("none holds", care("more 9 p=1;less 9 p=1"), 4);
        due("just 0", care("less 4 p=0"), 0);
        due("just below 0", care("less 5 p=0"), -1);
        due("the most", care("more 99 p<9" + ";more 99 p<9".repeat(7)), 4 + 8 * 99);
        due("the least", care("less 99 p<9" + ";less 99 p<9".repeat(7)), 4 - 8 * 99);
        due("below 0 on the way", care("less 99 p=0;less 99 p=0;more 99 p=0;more 99 p=0"), 4);
        due("above 99 on the way", care("more 99 p=0;more 99 p=0;less 99 p=0;less 99 p=0"), 4);
        due("those that hold alone", care("more 1 p=0;more 10 p=1;less 2 p=0;less 20 p=1;more 30 p=0"), 4 + 1 - 2 + 30);
    }

    // ---- care

    private static void careOfChild() {
        sentence("CARE of a CHILD for a PLACE (may be below 0): CHILD: SUM.");
        due("4", kids(0).of(0, 10), 4);
        due("below 0", taught("less 5 x=11", 0).of(0, 21), -1);
        due("of another place", taught("less 5 x=11", 0).of(0, 20), 4);
    }

    private static GlobeCorner one(int kind, int v, String text) {
        GlobeCorner g = new GlobeCorner();
        g.child(kind, v);
        if (!text.isEmpty()) due(text, school(g, text), 0);
        return g;
    }

    private static void careOfGood() {
        sentence("GOOD: SUM and v.");
        due("v 0", one(1, 0, "").of(0, 10), 4);
        due("v 9", one(1, 9, "").of(0, 10), 13);
        due("below 0", one(1, 9, "less 14 p=0").of(0, 10), -1);
    }

    private static void careOfBad() {
        sentence("BAD: the half (cut toward 0) of SUM.");
        int[][] halves = {{5, 2}, {4, 2}, {3, 1}, {2, 1}, {1, 0}, {0, 0}, {-1, 0}, {-2, -1}, {-3, -1}, {-4, -2}, {-5, -2}};
        for (int[] h : halves) {
            String text = h[0] > 4 ? "more " + (h[0] - 4) + " p=0" : "less " + (4 - h[0]) + " p=0";
            due("the half of " + h[0], one(2, 9, text).of(0, 10), h[1]);
        }
    }

    private static void careOfDreamy() {
        sentence("DREAMY: SUM; 0, if HOUR modulo 4 is 3.");
        GlobeCorner g = one(3, 9, "");
        for (int hour = 0; hour < 9; hour++) {
            due("at hour " + hour, g.of(0, 10), hour == 3 || hour == 7 ? 0 : 4);
            g.pass(1);
        }
        passTo(g, 9998);
        due("at hour 9998", g.of(0, 10), 4);
        g.pass(1);
        due("at hour 9999", g.of(0, 10), 0);
        GlobeCorner below = one(3, 9, "less 9 p=0");
        below.pass(2);
        due("below 0 at hour 2", below.of(0, 10), -5);
        below.pass(1);
        due("below 0 at hour 3", below.of(0, 10), 0);
    }

    private static void careOfMonitor() {
        sentence("MONITOR: as GOOD; twice that, if another CHILD has its FINGER on that PLACE.");
        GlobeCorner g = one(4, 9, "");
        g.child(0, 0);
        g.child(4, 0);
        due("nobody there", g.of(0, 21), 13);
        g.point(0, 11);
        due("itself there", g.of(0, 21), 13);
        due("of(2, 21), the first there", g.of(2, 21), 8);
        g.point(1, 11);
        due("another there too", g.of(0, 21), 26);
        due("another there, but not at 0", g.of(0, 10), 13);
        g.point(2, 11);
        due("two others there", g.of(0, 21), 26);
        g.point(0, -1);
        due("others alone there", g.of(0, 21), 26);
        g.bell();
        due("nobody there again", g.of(0, 21), 13);
        GlobeCorner below = one(4, 0, "less 5 p=0");
        below.child(0, 0);
        below.point(1, 0);
        due("twice what is below 0", below.of(0, 10), -2);
    }

    private static void careOfSulky() {
        sentence("SULKY: as BAD, less STOOD by 5 (cut; 9 at most).");
        GlobeCorner g = one(5, 9, "");
        g.point(0, 3);
        int[][] stood = {{0, 0}, {4, 0}, {5, 1}, {9, 1}, {10, 2}, {44, 8}, {45, 9}, {49, 9}, {50, 9}, {55, 9}, {9999, 9}};
        for (int[] s : stood) {
            passTo(g, s[0]);
            due("stood " + s[0], g.of(0, 13), 2 - s[1]);
        }
        GlobeCorner below = one(5, 9, "less 9 p=0");
        due("the half of -5, cut toward 0", below.of(0, 10), -2);
    }

    private static void careOfTold() {
        sentence("TOLD: as DREAMY, and its ROW (four numbers 0 .. 9; 0 at first) at PLACE modulo 4 more.");
        GlobeCorner g = one(6, 9, "");
        for (int p = 0; p < 12; p++) due("at first", g.of(0, 10 + p), 4);
        for (int part = 0; part < 4; part++) due("row at first", g.row(0, part, 9 - part), 0);
        for (int p = 0; p < 12; p++) due("place " + p, g.of(0, 10 + p), 4 + 9 - p % 4);
        dueOfEach("row(0, part, 0)", part -> g.row(0, part, 0), NONE, -1, 4);
        dueOfEach("row(0, 0, n)", n -> g.row(0, 0, n), BAD, -1, 10);
        g.pass(3);
        due("dreaming: its row alone", g.of(0, 10), 9);
        GlobeCorner below = one(6, 9, "less 9 p=0");
        below.row(0, 0, 4);
        due("below 0", below.of(0, 10), -1);
    }

    // ---- hours, spins

    /** What place 0 needs an hour later, with one of kind 0 at it. */
    private static int hourLater(String text, int need) {
        GlobeCorner g = taught(text, 0);
        g.point(0, 0);
        g.need(0, need);
        g.pass(1);
        return g.spot(0, 0);
    }

    private static void anHourGoes() {
        sentence("An HOUR goes, by how all is ahead of it: NEED of each PLACE is GROW more, less the CARE of each CHILD "
            + "whose FINGER is on it, as 0 if below, together (0 at least, 99 at most).");
        due("3 + 2 - 4", hourLater("grow 2", 3), 1);
        due("2 + 2 - 4", hourLater("grow 2", 2), 0);
        due("1 + 2 - 4", hourLater("grow 2", 1), 0);
        due("0 + 5 - 4", hourLater("grow 5", 0), 1);
        due("99 + 4 - 4", hourLater("grow 4", 99), 99);
        due("99 + 3 - 4", hourLater("grow 3", 99), 98);
        due("99 + 5 - 4", hourLater("grow 5", 99), 99);
        due("99 + 99 - 54, together first", hourLater("grow 99;more 50 p=0", 99), 99);
        due("99 + 99 - 103, together first", hourLater("grow 99;more 99 p=0", 99), 95);
        due("0 + 99 - 54, together first", hourLater("grow 99;more 50 p=0", 0), 45);
        due("20 + 2 - 0, as 0 if below", hourLater("less 5 p=0", 20), 22);
        due("20 + 2 - 0, just 0", hourLater("less 4 p=0", 20), 22);
        due("20 + 2 - 1", hourLater("less 3 p=0", 20), 21);
        due("0 + 0 - 0", hourLater("grow 0;less 5 p=0", 0), 0);

        GlobeCorner g = taught("less 20 p=0;more 2 p=1", 0, 0, 0);
        for (int c = 0; c < 3; c++) g.point(c, 11);
        g.need(10, 98);
        g.need(9, 97);
        g.pass(1);
        due("each as 0 if below: 20 + 2 - 0 - 6 - 4", g.spot(11, 0), 12);
        due("98 + 2", g.spot(10, 0), 99);
        due("97 + 2", g.spot(9, 0), 99);
        due("20 + 2", g.spot(0, 0), 22);
        GlobeCorner six = kids(0, 0, 0, 0, 0, 0);
        for (int c = 0; c < 6; c++) six.point(c, 5);
        six.need(5, 23);
        six.pass(1);
        due("23 + 2 - 24", six.spot(5, 0), 1);
    }

    private static void anHourGoesByHowAllIsAhead() {
        GlobeCorner g = taught("more 3 h=0;more 5 n=2;grow 0", 0, 0);
        g.point(0, 0);
        g.point(1, 0);
        g.need(0, 29);
        g.pass(1);
        due("both by hour 0 and need 29", g.spot(0, 0), 5);
        GlobeCorner monitor = kids(0, 4, 4, 0);
        monitor.point(1, 0);
        monitor.point(2, 11);
        monitor.point(3, 11);
        monitor.need(11, 40);
        monitor.pass(1);
        due("a monitor alone: 20 + 2 - 9", monitor.spot(0, 0), 13);
        due("a monitor with another: 40 + 2 - 18 - 4", monitor.spot(11, 0), 20);
        monitor.point(0, 0);
        monitor.point(3, 0);
        monitor.need(0, 50);
        monitor.pass(1);
        due("a monitor with two others: 50 + 2 - 18 - 8", monitor.spot(0, 0), 26);
        due("a monitor alone again: 20 + 2 - 9", monitor.spot(11, 0), 13);
        GlobeCorner sulky = kids(5);
        sulky.point(0, 0);
        sulky.pass(5);
        due("stood 0 to 4 ahead", sulky.spot(0, 0), 20);
        sulky.pass(1);
        due("stood 5 ahead", sulky.spot(0, 0), 21);
        GlobeCorner dreamy = kids(3);
        dreamy.point(0, 0);
        dreamy.pass(3);
        due("hours 0 to 2 ahead", dreamy.spot(0, 0), 14);
        dreamy.pass(1);
        due("hour 3 ahead", dreamy.spot(0, 0), 16);
    }

    private static void stood() {
        sentence("STOOD of each CHILD with a FINGER on some PLACE is 1 more (9999 at most).");
        GlobeCorner g = kids(0, 0, 0);
        g.point(0, 0);
        g.point(2, 11);
        g.pass(1);
        int[] once = {1, 0, 1};
        for (int c = 0; c < 3; c++) due("of(" + c + ", 3)", g.of(c, 3), once[c]);
        passTo(g, 9999);
        int[] most = {9999, 0, 9999};
        for (int c = 0; c < 3; c++) due("of(" + c + ", 3)", g.of(c, 3), most[c]);
        due("no hour more", g.pass(1), STATE);
        due("of(0, 3)", g.of(0, 3), 9999);
    }

    private static void hourIsMore() {
        sentence("HOUR is 1 more.");
        GlobeCorner g = new GlobeCorner();
        due("pass(1)", g.pass(1), 1);
        due("pass(0)", g.pass(0), 1);
        due("pass(60)", g.pass(60), 61);
    }

    private static void spins() {
        sentence("A SPIN by s: each FINGER on some PLACE is on the one s further on (round the ring).");
        GlobeCorner g = kids(0, 0, 0, 0);
        int[] from = {0, 1, 11, -1};
        for (int s = 0; s < 12; s++) {
            for (int c = 0; c < 4; c++) g.point(c, from[c]);
            due("spin(" + s + ")", g.spin(s), 3);
            due("0 on by " + s, g.of(0, 2), s);
            due("1 on by " + s, g.of(1, 2), s == 11 ? 0 : s + 1);
            due("11 on by " + s, g.of(2, 2), s == 0 ? 11 : s - 1);
            due("none by " + s, g.of(3, 2), NEVER);
        }
    }
}
