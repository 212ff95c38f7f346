/** The second part of the Terms, sentence by sentence: what is asked, what is told by hand, acts, the image. */
public final class AskedEdgesTest extends Edges {
    public static void main(String[] args) {
        part("Terms 2");
        beyondTheLastHour();
        changesNothing();
        on();
        well();
        postsOfFew();
        postsByBounds();
        crowd();
        crowdFromNowOn();
        turn();
        seen();
        needs();
        can();
        odds();
        mean();
        ends();
        looked();
        acts();
        bodies();
        bodiesOfOthers();
        whichBody();
        trace();
        image();
        end("Terms 2");
    }

    // ---- hours that are only asked

    private static void beyondTheLastHour() {
        sentence("All that follows is asked, goes on from how all is (HOURS, STOOD beyond 9999, too), and changes "
            + "nothing.");
        GlobeCorner g = kids(3, 0, 0, 0, 0, 0);
        for (int c = 0; c < 6; c++) g.point(c, c);
        passTo(g, 9999);
        g.need(0, 50);
        // It dreams at hour 9999, and at 10003 again.
        int[] needs = {50, 52, 50, 48, 46, 48};
        for (int n = 0; n < 6; n++) due("on(" + n + ", 10)", g.on(n, 10), needs[n]);
        school(g, "more 8 h=0&p=0;less 4 p=0;grow 0");
        due("on(1, 10), hour 9999", g.on(1, 10), 50);
        due("on(2, 10), hour 10000 modulo 10 is 0", g.on(2, 10), 42);
        due("on(12, 10), hour 10010 modulo 10 is 0", g.on(12, 10), 34);
        for (int i = 0; i < 10; i++) g.plan(0, 0);
        due("ends(1), each stood 10009", g.ends(1), 6 * 10009);
        due("told(0)", g.told(0), 9999);
        for (int c = 0; c < 6; c++) due("of(" + c + ", 3)", g.of(c, 3), 9999);
    }

    /** Some of each: what is asked must leave all of it as it is. */
    private static GlobeCorner some() {
        GlobeCorner g = taught("more 3 x<6;less 1 h>4;grow 3", 0, 1, 4, 5, 6);
        for (int c = 0; c < 5; c++) g.point(c, c * 2);
        g.row(4, 0, 3);
        g.pass(6);
        g.see(1, 3, g.on(3, 11));
        g.plan(0, 0);
        g.plan(1, 2);
        g.plan(2, 5);
        g.plan(3, 3);
        g.book(4, 1);
        return g;
    }

    /** All that the image holds, as far as it can be asked for. */
    private static String all(GlobeCorner g) {
        StringBuilder s = new StringBuilder();
        for (int what = 0; what < 4; what++) s.append(g.told(what)).append(' ');
        for (int p = 0; p < 12; p++) s.append(g.spot(p, 0)).append(' ');
        for (int c = 0; c < 6; c++) for (int what = 0; what < 4; what++) s.append(g.of(c, what)).append(' ');
        for (int c = 0; c < 6; c++) for (int p = 0; p < 12; p++) s.append(g.of(c, 10 + p)).append(' ');
        for (int what : new int[] {0, 2, 3, 4}) s.append(g.count(what)).append(' ');
        s.append(g.spot(1, 2)).append(' ').append(g.spot(1, 3)).append(' ').append(g.looked()).append(' ');
        return s.append(g.ends(0)).append(' ').append(g.ends(1)).toString();
    }

    private static void changesNothing() {
        String before = all(some());
        Call[] asked = {g -> g.on(60, 0), g -> g.on(60, 1), g -> g.on(60, 12), g -> g.spot(2, 1), g -> g.spot(0, 2),
            g -> g.spot(0, 3), g -> g.told(4), g -> g.told(14), g -> g.crowd(3, 12), g -> g.turn(12), g -> g.can(1, 0),
            g -> g.can(1, 1), g -> g.odds(2, 5, 20, 0), g -> g.odds(2, 5, 20, 1), g -> g.mean(60, 0),
            g -> g.mean(60, 1), g -> g.ends(0), g -> g.ends(1), g -> g.looked(), g -> g.of(2, 14)};
        for (int i = 0; i < asked.length; i++) {
            GlobeCorner g = some();
            asked[i].of(g);
            due("all, behind question " + i, all(g), before);
        }
    }

    private static void on() {
        sentence("ON n HOURS (0 .. 60): NEED of a PLACE; NEED of all, together; how many are WELL (NEED 0).");
        GlobeCorner g = taught("grow 1", 0);
        for (int p = 0; p < 12; p++) g.need(p, 8 * p);
        g.point(0, 11);
        due("on(0, 0)", g.on(0, 0), 528);
        due("on(0, 1)", g.on(0, 1), 1);
        due("on(0, 21)", g.on(0, 21), 88);
        due("on(1, 0)", g.on(1, 0), 528 + 11 - 3);
        due("on(1, 1)", g.on(1, 1), 0);
        due("on(1, 10)", g.on(1, 10), 1);
        due("on(29, 21)", g.on(29, 21), 1);
        due("on(29, 1)", g.on(29, 1), 0);
        due("on(30, 21)", g.on(30, 21), 0);
        due("on(30, 1)", g.on(30, 1), 1);
        due("on(59, 10)", g.on(59, 10), 59);
        due("on(60, 10)", g.on(60, 10), 60);
        due("on(60, 14), 32 + 60", g.on(60, 14), 92);
        due("on(60, 15), 40 + 60", g.on(60, 15), 99);
        due("on(60, 0)", g.on(60, 0), 60 + 68 + 76 + 84 + 92 + 6 * 99);
        dueOfEach("on(n, 0)", n -> g.on(n, 0), BAD, -1, 61, LOW, HIGH);
        dueOfEach("on(n, 21)", n -> g.on(n, 21), BAD, -1, 61, LOW, HIGH);
        needAll(g, 0);
        due("on(0, 1), all", g.on(0, 1), 12);
        due("on(0, 0), none", g.on(0, 0), 0);
    }

    private static void well() {
        sentence("WELL of a PLACE: the fewest HOURS (0 .. 60) behind which its NEED is 0 (-5: not by then).");
        GlobeCorner g = taught("grow 3", 0, 3);
        g.point(0, 11);
        g.need(11, 60);
        due("just by 60", g.spot(11, 1), 60);
        g.need(11, 61);
        due("by 61", g.spot(11, 1), NEVER);
        g.need(11, 59);
        due("by 59", g.spot(11, 1), 59);
        g.need(11, 1);
        due("by 1", g.spot(11, 1), 1);
        g.need(11, 0);
        due("by 0", g.spot(11, 1), 0);
        g.need(10, 1);
        due("nobody there", g.spot(10, 1), NEVER);
        // The dreamy one's place is well behind 2 and 3, and needs again behind 4.
        g.point(1, 5);
        g.need(5, 2);
        due("the fewest", g.spot(5, 1), 2);
    }

    // ---- whom to put to what

    private static void duePosts(GlobeCorner g, int much, int... places) {
        due("told(4)", g.told(4), much);
        for (int c = 0; c < places.length; c++) due("told(" + (10 + c) + ")", g.told(10 + c), places[c]);
        due("told(" + (10 + places.length) + "), no such child", g.told(10 + places.length), NONE);
    }

    private static void postsOfFew() {
        sentence("POSTS: of all ways to give each CHILD a PLACE, no two the same, that by which CARE of each for its own, "
            + "as 0 if below, 99 at most, as all is now (as if no other had a FINGER there), together, is greatest (of "
            + "several the first as a row of PLACES by CHILDREN): how much; the PLACE of the k-th.");
        duePosts(new GlobeCorner(), 0);
        duePosts(kids(0), 4, 0);
        duePosts(kids(0, 0, 0, 0, 0, 0), 24, 0, 1, 2, 3, 4, 5);
        duePosts(taught("more 9 x=11", 0), 13, 11);
        duePosts(taught("more 9 x=0", 0), 13, 0);
        duePosts(taught("more 9 x=5|x=7", 0), 13, 5);
        // No two the same: of both ways the first as a row.
        duePosts(taught("more 9 x=5", 0, 0), 17, 0, 5);
        duePosts(taught("more 9 x=0", 0, 0), 17, 0, 1);
        duePosts(taught("more 9 x=5;more 1 p=0&x=5", 0, 0), 18, 5, 0);
        duePosts(taught("more 9 x=5;more 1 p=1&x=5", 0, 0), 18, 0, 5);
        duePosts(taught("more 9 x>5", 0, 0, 0, 0, 0, 0), 6 * 13, 6, 7, 8, 9, 10, 11);
        duePosts(taught("more 9 x>5&p<5;more 9 x=6", 0, 0, 0, 0, 0, 0), 22 + 4 * 13 + 4, 6, 7, 8, 9, 10, 0);
    }

    private static void postsByBounds() {
        duePosts(taught("more 95 x=7", 0), 99, 7);
        duePosts(taught("more 94 x=7", 0), 98, 7);
        duePosts(taught("more 95 x=7;more 99 x=8", 0), 99, 7);
        duePosts(taught("more 99 x<6", 0, 0, 0, 0, 0, 0), 6 * 99, 0, 1, 2, 3, 4, 5);
        duePosts(taught("less 5 p=0", 0, 0), 4, 0, 1);
        duePosts(taught("less 5 p=1", 0, 0), 4, 0, 1);
        duePosts(taught("less 5 p<9", 0, 0, 0, 0, 0, 0), 0, 0, 1, 2, 3, 4, 5);
        duePosts(taught("less 9 p=0;more 1 p=0&x=8", 0), 0, 0);
        duePosts(taught("less 9 x<11;less 3 x=11", 0), 1, 11);
        duePosts(taught("less 9 p=0;more 3 p=1&x=0;more 3 p=1&x=1", 0, 0), 7, 0, 1);

        GlobeCorner monitor = kids(4, 0);
        monitor.point(0, 0);
        monitor.point(1, 0);
        duePosts(monitor, 9 + 4, 0, 1);
        GlobeCorner now = taught("more 9 n>4;more 5 h=3", 3, 2);
        now.need(8, 49);
        now.need(9, 60);
        duePosts(now, 13 + 2, 9, 0);
        passTo(now, 3);
        due("told(11), asked first", now.told(11), 8);
        duePosts(now, 9, 0, 8);
    }

    private static void crowd() {
        sentence("CROWD for a PLACE of n HOURS (1 .. 12): the set with the fewest CHILDREN (as bits; of several the "
            + "least as bits) by whom, having their FINGERS on it from now on, all others theirs on none, its NEED is 0 "
            + "behind n (-5: none).");
        GlobeCorner none = new GlobeCorner();
        due("no children", none.crowd(0, 1), NEVER);
        none.need(0, 0);
        due("no children, need 0", none.crowd(0, 1), NEVER);
        school(none, "grow 0");
        due("no children, need 0 stays", none.crowd(0, 1), 0);

        GlobeCorner g = kids(0, 0, 0, 0, 0, 0);
        due("all six of 20", g.crowd(11, 1), 63);
        g.need(11, 22);
        due("all six of 22", g.crowd(11, 1), 63);
        g.need(11, 23);
        due("none of 23", g.crowd(11, 1), NEVER);
        g.need(11, 18);
        due("five of 18", g.crowd(11, 1), 31);
        g.need(11, 0);
        due("the least as bits", g.crowd(11, 1), 1);
        g.need(11, 24);
        due("one by 12", g.crowd(11, 12), 1);
        due("two by 11", g.crowd(11, 11), 3);
        g.need(11, 25);
        due("two by 12", g.crowd(11, 12), 3);
        dueOfEach("crowd(11, n)", n -> g.crowd(11, n), BAD, 0, 13, -1, LOW, HIGH);
        dueOfEach("crowd(p, 1)", p -> g.crowd(p, 1), NONE, -1, 12, LOW, HIGH);
        GlobeCorner last = kids(0, 0, 0, 0, 0, 1);
        last.need(0, 7);
        due("the last alone is fewer than two", last.crowd(0, 1), 32);
        last.need(0, 8);
        due("the first and the last", last.crowd(0, 1), 33);
    }

    private static void crowdFromNowOn() {
        GlobeCorner others = kids(4, 0, 0);
        others.point(1, 0);
        others.point(2, 0);
        others.need(0, 7);
        due("a monitor alone", others.crowd(0, 1), 1);
        others.need(0, 8);
        due("others who are there now do not help it", others.crowd(0, 1), 3);
        others.need(0, 20);
        due("but one that comes does: 18 and 4", others.crowd(0, 1), 3);
        others.need(0, 21);
        due("all: 18 and 8", others.crowd(0, 1), 7);
        due("of(1, 2)", others.of(1, 2), 0);
        GlobeCorner dreamy = kids(3);
        dreamy.need(0, 2);
        due("0 behind 3", dreamy.crowd(0, 3), 1);
        due("but not behind 4", dreamy.crowd(0, 4), NEVER);
        due("and behind 5 again", dreamy.crowd(0, 5), 1);
        GlobeCorner sulky = taught("more 2 k=5", 5);
        sulky.need(0, 5);
        due("stood 0 to 4", sulky.crowd(0, 5), 1);
        sulky.need(0, 6);
        due("stood 5 does no good", sulky.crowd(0, 6), NEVER);
    }

    private static void turn() {
        sentence("TURN of n HOURS (1 .. 12): the SPIN (0 .. 11) by which now NEED of all, together, is least behind n (of "
            + "several the first).");
        GlobeCorner g = kids(0, 0);
        needAll(g, 0);
        due("no finger", g.turn(1), 0);
        g.point(0, 0);
        due("all alike", g.turn(12), 0);
        g.need(11, 50);
        due("by 11", g.turn(1), 11);
        due("by 11", g.turn(12), 11);
        g.need(10, 50);
        due("the first of 10 and 11", g.turn(1), 10);
        g.need(0, 50);
        due("the first of 0, 10 and 11", g.turn(1), 0);
        g.point(0, 11);
        due("0 again", g.turn(1), 0);
        g.need(11, 0);
        due("behind 11 is 0", g.turn(1), 1);
        due("of(0, 2)", g.of(0, 2), 11);
        dueOfEach("turn(n)", n -> g.turn(n), BAD, 0, 13, -1, LOW, HIGH);
        // One hour does as much at 1 as at 2; more hours do more at 2.
        GlobeCorner later = kids(0);
        needAll(later, 0);
        later.point(0, 0);
        later.need(1, 2);
        later.need(2, 50);
        due("behind 1", later.turn(1), 1);
        due("behind 2", later.turn(2), 2);
        // 4 an hour and 22 once are as good as 6 an hour for 11 hours.
        GlobeCorner twelfth = taught("more 2 x=2;more 22 x=1&h=2;grow 0", 0);
        needAll(twelfth, 99);
        twelfth.need(0, 0);
        twelfth.point(0, 0);
        due("behind 11", twelfth.turn(11), 1);
        due("behind 12", twelfth.turn(12), 2);
    }

    // ---- seen, odds

    private static void seen() {
        sentence("SEEN told by hand: a PLACE, HOURS n (0 .. 12) from now, its NEED then (0 .. 99; 5 rows at most).");
        GlobeCorner g = kids(0);
        dueOfEach("see(p, 0, 0)", p -> g.see(p, 0, 0), NONE, -2, 12, LOW, HIGH);
        dueOfEach("see(0, n, 0)", n -> g.see(0, n, 0), BAD, -1, 13, LOW, HIGH);
        dueOfEach("see(0, 0, need)", need -> g.see(0, 0, need), BAD, -1, 100, LOW, HIGH);
        due("count(2)", g.count(2), 0);
        due("see(0, 0, 20)", g.see(0, 0, 20), 1);
        due("see(11, 12, 44)", g.see(11, 12, 44), 2);
        due("see(5, 12, 44)", g.see(5, 12, 44), 3);
        due("see(0, 12, 44)", g.see(0, 12, 44), 4);
        due("spot(11, 2), all is so by 20", g.spot(11, 2), 1);
        due("spot(11, 3)", g.spot(11, 3), 20);
        due("see(0, 11, 43), otherwise", g.see(0, 11, 43), 5);
        due("spot(11, 2), the fifth is otherwise", g.spot(11, 2), 0);
        due("see(0, 0, 0), a sixth", g.see(0, 0, 0), FULL);
        due("count(2)", g.count(2), 5);
    }

    private static void needs() {
        sentence("NEEDS of a PLACE: how many numbers (0 .. 99) there are by which, were that its NEED now, all of SEEN is "
            + "so; the least (-5: none).");
        GlobeCorner g = kids(0);
        due("spot(3, 2), nothing seen", g.spot(3, 2), 100);
        due("spot(3, 3), nothing seen", g.spot(3, 3), 0);
        g.see(3, 0, 99);
        due("spot(3, 2), 99 alone", g.spot(3, 2), 1);
        due("spot(3, 3), 99 alone", g.spot(3, 3), 99);
        g.see(3, 0, 0);
        due("spot(3, 2), 99 and 0", g.spot(3, 2), 0);
        due("spot(3, 3), 99 and 0", g.spot(3, 3), NEVER);
        g.see(-1, 0, 0);
        g.see(3, 0, 0);
        due("spot(3, 2), 0 alone", g.spot(3, 2), 1);
        due("spot(3, 3), 0 alone", g.spot(3, 3), 0);
        due("spot(4, 2), 3 needs 20", g.spot(4, 2), 0);
        due("spot(4, 3), 3 needs 20", g.spot(4, 3), NEVER);
        g.see(-1, 0, 0);
        g.see(3, 12, 99);
        due("spot(3, 2), 75 and more", g.spot(3, 2), 25);
        due("spot(3, 3), 75 and more", g.spot(3, 3), 75);
        g.see(-1, 0, 0);
        g.see(3, 1, 1);
        due("spot(3, 2), it grows by 2", g.spot(3, 2), 0);
        g.point(0, 3);
        due("spot(3, 2), 3 alone", g.spot(3, 2), 1);
        due("spot(3, 3), 3 alone", g.spot(3, 3), 3);
        g.see(-1, 0, 0);
        g.see(3, 12, 0);
        due("spot(3, 2), up to 24", g.spot(3, 2), 25);
        due("spot(3, 3), up to 24", g.spot(3, 3), 0);
        g.see(3, 11, 2);
        due("spot(3, 2), 24 alone", g.spot(3, 2), 1);
        due("spot(3, 3), 24 alone", g.spot(3, 3), 24);
        due("spot(3, 0), as it is", g.spot(3, 0), 20);
        school(g, "more 1 n>8");
        g.see(-1, 0, 0);
        g.see(3, 1, 87);
        due("spot(3, 2), 89 less 2 and 90 less 3", g.spot(3, 2), 2);
        due("spot(3, 3), 89 less 2 and 90 less 3", g.spot(3, 3), 89);
    }

    private static void can() {
        sentence("CAN of a CHILD: how many numbers v (0 .. 9) likewise; the least (-5: none).");
        GlobeCorner g = kids(1, 0);
        g.point(0, 3);
        due("can(0, 0), nothing seen", g.can(0, 0), 10);
        due("can(0, 1), nothing seen", g.can(0, 1), 0);
        int[][] rows = {{19, 0, NEVER}, {18, 1, 0}, {13, 1, 5}, {9, 1, 9}, {8, 0, NEVER}};
        for (int[] r : rows) {
            g.see(-1, 0, 0);
            g.see(3, 1, r[0]);
            due("can(0, 0) by " + r[0], g.can(0, 0), r[1]);
            due("can(0, 1) by " + r[0], g.can(0, 1), r[2]);
        }
        g.see(-1, 0, 0);
        g.see(3, 12, 0);
        due("can(0, 0), it always is", g.can(0, 0), 10);
        g.need(3, 99);
        due("can(0, 0), 99 by 12: 9 an hour and more", g.can(0, 0), 3);
        due("can(0, 1), 99 by 12: 9 an hour and more", g.can(0, 1), 7);
        due("can(1, 0), not by that one", g.can(1, 0), 0);
        due("can(1, 1), not by that one", g.can(1, 1), NEVER);
        g.see(0, 0, 21);
        due("can(0, 0), another place is otherwise", g.can(0, 0), 0);
        due("of(0, 1), as it is", g.of(0, 1), 5);
    }

    private static void dueOdds(GlobeCorner g, int n, long above, long below) {
        due("odds(0, 0, " + n + ", 0)", g.odds(0, 0, n, 0), above);
        due("odds(0, 0, " + n + ", 1)", g.odds(0, 0, n, 1), below);
    }

    private static void odds() {
        sentence("ODDS of a CHILD, a PLACE and n HOURS (0 .. 20): if the FINGER of the one is on any of the 12 PLACES, each "
            + "alike likely, from now on: how likely NEED of the told PLACE is 0 behind n: a fraction in lowest terms.");
        GlobeCorner g = taught("grow 3", 0, 0);
        dueOdds(g, 0, 0, 1);
        dueOdds(g, 20, 1, 12);
        dueOdds(g, 19, 0, 1);
        g.need(0, 21);
        dueOdds(g, 20, 0, 1);
        g.need(0, 0);
        dueOdds(g, 0, 1, 1);
        dueOdds(g, 1, 1, 12);
        g.point(1, 0);
        dueOdds(g, 1, 1, 1);
        g.point(0, 0);
        g.point(1, -1);
        dueOdds(g, 1, 1, 12);
        due("of(0, 2)", g.of(0, 2), 0);
        dueOfEach("odds(0, 0, n, 0)", n -> g.odds(0, 0, n, 0) == NO ? 1 : 0, 1, -1, 21, LOW, HIGH);
        dueOfEach("odds(0, 11, 20, part)", part -> g.odds(0, 11, 20, part) == NO ? 1 : 0, 1, -1, 2, LOW, HIGH);
        dueOfEach("odds(c, 0, 0, 0)", c -> g.odds(c, 0, 0, 0) == NO ? 1 : 0, 1, -1, 2, LOW, HIGH);
        dueOfEach("odds(0, p, 0, 0)", p -> g.odds(0, p, 0, 0) == NO ? 1 : 0, 1, -1, 12, LOW, HIGH);
        // The other sees to the place at hour 1 if it still needs 60 then: the one spoils that there.
        GlobeCorner spoilt = taught("less 4 p=1;more 90 p=1&n=6&h=1;grow 0", 0, 0);
        spoilt.need(0, 62);
        spoilt.point(1, 0);
        dueOdds(spoilt, 2, 11, 12);
    }

    private static void mean() {
        sentence("MEAN of n HOURS (0 .. 60): NEED of all PLACES behind n, together, by 12: a fraction in lowest terms.");
        GlobeCorner g = taught("grow 1");
        needAll(g, 0);
        long[] below = {1, 12, 6, 4, 3, 12, 2, 12, 3, 4, 6, 12, 1};
        for (int n = 0; n <= 12; n++) {
            g.need(11, n);
            due("mean(0, 0) of " + n, g.mean(0, 0), n * below[n] / 12);
            due("mean(0, 1) of " + n, g.mean(0, 1), below[n]);
        }
        due("mean(60, 0)", g.mean(60, 0), 61);
        due("mean(60, 1)", g.mean(60, 1), 1);
        needAll(g, 99);
        due("mean(0, 0), the most", g.mean(0, 0), 99);
        due("mean(60, 0), the most", g.mean(60, 0), 99);
        g.need(0, 98);
        due("mean(0, 0), one less", g.mean(0, 0), 99 * 12 - 1);
        due("mean(0, 1), one less", g.mean(0, 1), 12);
        due("mean(1, 0)", g.mean(1, 0), 99);
        dueOfEach("mean(n, 0)", n -> g.mean(n, 0) == NO ? 1 : 0, 1, -1, 61, LOW, HIGH);
        dueOfEach("mean(60, part)", part -> g.mean(60, part) == NO ? 1 : 0, 1, -1, 2, LOW, HIGH);
    }

    // ---- told by hand

    private static void ends() {
        sentence("A PLAN told by hand: what goes (0 an HOUR, 1 the FINGER of a CHILD is on none, 2 a SPIN by n (0 .. 11), 3 "
            + "NEED of PLACE n is 0; 10 rows at most): ENDS: NEED of all, together; STOOD of all, together.");
        GlobeCorner g = kids(0, 0);
        g.point(0, 11);
        g.point(1, 4);
        due("ends(0), no plan", g.ends(0), 240);
        due("ends(1), no plan", g.ends(1), 0);
        g.plan(0, 0);
        due("an hour", g.ends(0), 240 + 24 - 8);
        due("an hour", g.ends(1), 2);
        g.plan(1, 1);
        g.plan(0, 0);
        due("an hour with one finger", g.ends(0), 256 + 24 - 4);
        due("an hour with one finger", g.ends(1), 3);
        g.plan(2, 1);
        g.plan(3, 0);
        due("place 0 is 0", g.ends(0), 276 - 24);
        g.plan(0, 0);
        due("the finger is on 0, round the ring", g.ends(0), 252 + 22);
        due("the finger is on 0, round the ring", g.ends(1), 4);
        g.plan(3, 11);
        due("place 11 is 0", g.ends(0), 274 - 18);
        g.plan(2, 11);
        g.plan(0, 0);
        due("the finger is on 11, round the ring", g.ends(0), 256 + 22);
        due("the tenth row", g.plan(3, 5), 10);
        due("place 5 is 0", g.ends(0), 278 - 28);
        due("an eleventh row", g.plan(0, 0), FULL);
        due("ends(0)", g.ends(0), 250);
        due("ends(1)", g.ends(1), 5);
        g.plan(-1, 0);
        for (int i = 0; i < 10; i++) g.plan(0, 0);
        needAll(g, 99);
        due("ten hours: 99 at most, and 20 less at two", g.ends(0), 10 * 99 + 2 * 79);
        due("ten hours", g.ends(1), 20);
        due("told(2)", g.told(2), 12 * 99);
        dueOfEach("plan(2, n)", n -> g.plan(2, n), BAD, -1, 12, LOW, HIGH);
        dueOfEach("plan(3, n)", n -> g.plan(3, n), NONE, -1, 12, LOW, HIGH);
        dueOfEach("plan(1, n)", n -> g.plan(1, n), NONE, -1, 2, LOW, HIGH);
        dueOfEach("plan(what, 0)", what -> g.plan(what, 0), NONE, -2, 4, LOW, HIGH);
    }

    private static void looked() {
        sentence("A BOOK told by hand: PLACES, NEED (0 .. 99; 8 at most): LOOKED at: the number of the first of these rows "
            + "by which it is otherwise now (-5: none).");
        GlobeCorner g = new GlobeCorner();
        due("looked(), no rows", g.looked(), NEVER);
        g.need(0, 0);
        g.need(11, 99);
        due("book(0, 0)", g.book(0, 0), 1);
        due("book(11, 99)", g.book(11, 99), 2);
        for (int i = 3; i <= 7; i++) due("book(5, 20)", g.book(5, 20), i);
        due("looked(), none", g.looked(), NEVER);
        due("book(6, 21)", g.book(6, 21), 8);
        due("looked(), the last", g.looked(), 7);
        due("a ninth", g.book(0, 0), FULL);
        g.need(5, 21);
        due("looked(), the first of five", g.looked(), 2);
        g.need(11, 98);
        due("looked()", g.looked(), 1);
        g.need(0, 1);
        due("looked(), the first", g.looked(), 0);
        dueOfEach("book(p, 0)", p -> g.book(p, 0), NONE, -2, 12, LOW, HIGH);
        dueOfEach("book(0, need)", need -> g.book(0, need), BAD, -1, 100, LOW, HIGH);
    }

    // ---- acts

    /** The number-th child, of a kind, with v; those ahead of it are of kind 0. */
    private static GlobeCorner oneOf(int kind, int number, int v) {
        GlobeCorner g = new GlobeCorner();
        for (int c = 0; c < number; c++) g.child(0, 0);
        g.child(kind, v);
        return g;
    }

    private static void dueAct(int kind, int number, int v, int act, int x, int want) {
        String call = "act(" + number + ", " + act + ", " + x + ") of kind " + kind + " with v " + v;
        due(call, oneOf(kind, number, v).act(number, act, x), want);
    }

    private static void acts() {
        sentence("ACTS of a CHILD with x (wrapping): 0 points, 1 sees, 2 tells; i its number.");
        dueAct(0, 5, 9, 0, 7, 12);
        dueAct(0, 5, 9, 1, 7, 3);
        dueAct(0, 5, 9, 2, 7, 6);
        GlobeCorner g = kids(0);
        dueOfEach("act(0, act, 7)", act -> g.act(0, act, 7), 0, -1, 3, LOW, HIGH);
        dueOfEach("act(c, 0, 7)", c -> g.act(c, 0, 7), 0, -1, 1, LOW, HIGH);
    }

    private static void bodies() {
        sentence("BODIES: CHILD: 10 points: x + i.");
        dueAct(0, 5, 9, 0, HIGH, LOW + 4);
        dueAct(0, 0, 9, 0, HIGH, HIGH);
        dueAct(0, 1, 9, 0, LOW, LOW + 1);
        sentence("11 sees: points(x) - v.");
        dueAct(0, 0, 9, 1, LOW, HIGH - 8);
        dueAct(0, 1, 9, 1, HIGH, HIGH - 8);
        sentence("12 tells: sees(x) * 2.");
        dueAct(0, 0, 0, 2, 1 << 30, LOW);
        dueAct(0, 0, 0, 2, HIGH, -2);
        dueAct(0, 0, 1, 2, LOW, -2);
        sentence("GOOD: 20 sees: super.sees(x) ^ 6.");
        dueAct(1, 0, 0, 1, -1, -7);
        dueAct(1, 0, 1, 1, LOW, HIGH - 6);
        dueAct(1, 0, 0, 0, HIGH, HIGH);
        dueAct(1, 0, 0, 2, HIGH, 2 * (HIGH - 6));
        sentence("BAD: 30 points: super.points(x * 3).");
        dueAct(2, 0, 0, 0, HIGH, HIGH - 2);
        dueAct(2, 3, 0, 0, HIGH, LOW);
        dueAct(2, 0, 0, 0, LOW, LOW);
        dueAct(2, 0, 9, 1, 5, 6);
        dueAct(2, 0, 9, 2, 5, 12);
        sentence("DREAMY: 40 tells: super.tells(x) + sees(1).");
        dueAct(3, 3, 0, 2, (1 << 30) - 4, LOW + 2);
        dueAct(3, 0, 9, 2, 4, -10 - 8);
        dueAct(3, 0, 0, 2, HIGH, -1);
    }

    private static void bodiesOfOthers() {
        sentence("MONITOR: 50 points: -super.points(x).");
        dueAct(4, 0, 0, 0, LOW, LOW);
        dueAct(4, 0, 0, 0, HIGH, -HIGH);
        dueAct(4, 1, 0, 0, HIGH, LOW);
        dueAct(4, 0, 0, 0, 0, 0);
        sentence("51 sees: super.sees(x + 1).");
        dueAct(4, 0, 0, 1, HIGH, LOW + 6);
        dueAct(4, 0, 2, 1, -1, -2 ^ 6);
        dueAct(4, 0, 2, 2, -1, (-2 ^ 6) * 2);
        sentence("SULKY: 60 tells: super.tells(x - i).");
        dueAct(5, 1, 0, 2, LOW, -4);
        dueAct(5, 0, 0, 2, 1, 6);
        dueAct(5, 2, 9, 2, 2, (0 + 2 - 9) * 2);
        dueAct(5, 2, 9, 1, 2, 6 + 2 - 9);
        sentence("TOLD: 70 sees: super.sees(x) + super.points(2).");
        dueAct(6, 0, 0, 1, HIGH, LOW + 1);
        dueAct(6, 1, 9, 1, LOW, (LOW + 1 ^ 9) - 9 + 3);
        sentence("71 points: super.points(x) ^ v.");
        dueAct(6, 1, 9, 0, HIGH, LOW + 9);
        dueAct(6, 0, 9, 0, 9, 0);
        dueAct(6, 0, 0, 0, LOW, LOW);
    }

    private static void dueTrace(GlobeCorner g, int... bodies) {
        due("count(6)", g.count(6), bodies.length);
        for (int i = 0; i < bodies.length; i++) due("trace(" + i + ")", g.trace(i), bodies[i]);
        due("trace(" + bodies.length + ")", g.trace(bodies.length), NONE);
    }

    private static void dueBodies(int kind, int act, int... bodies) {
        GlobeCorner g = kids(kind);
        g.act(0, act, 3);
        dueTrace(g, bodies);
    }

    private static void whichBody() {
        sentence("points(..) and so on: the body of its KIND, or, if that has none, of the next KIND above that has one; "
            + "super.points(..): so from the KIND above the body's on; all that stands in a body is done from the left on.");
        dueBodies(0, 0, 10);
        dueBodies(0, 1, 11, 10);
        dueBodies(0, 2, 12, 11, 10);
        dueBodies(1, 0, 10);
        dueBodies(1, 1, 20, 11, 10);
        dueBodies(1, 2, 12, 20, 11, 10);
        dueBodies(2, 0, 30, 10);
        dueBodies(2, 1, 11, 30, 10);
        dueBodies(2, 2, 12, 11, 30, 10);
        dueBodies(3, 0, 10);
        dueBodies(3, 1, 11, 10);
        dueBodies(3, 2, 40, 12, 11, 10, 11, 10);
        dueBodies(4, 0, 50, 10);
        dueBodies(4, 1, 51, 20, 11, 50, 10);
        dueBodies(4, 2, 12, 51, 20, 11, 50, 10);
        dueBodies(5, 0, 30, 10);
        dueBodies(5, 1, 11, 30, 10);
        dueBodies(5, 2, 60, 12, 11, 30, 10);
        dueBodies(6, 0, 71, 10);
        dueBodies(6, 1, 70, 11, 71, 10, 10);
        dueBodies(6, 2, 40, 12, 70, 11, 71, 10, 10, 70, 11, 71, 10, 10);
    }

    private static void trace() {
        sentence("THE TRACE: the numbers of the bodies that ran in the latest act(), as they began; the first 20 are kept.");
        GlobeCorner g = kids(6, 0);
        dueTrace(g);
        g.act(0, 2, 1);
        dueTrace(g, 40, 12, 70, 11, 71, 10, 10, 70, 11, 71, 10, 10);
        dueOfEach("trace(i)", i -> g.trace(i), NONE, -1, 12, 19, 20, LOW, HIGH);
        g.act(1, 1, 1);
        dueTrace(g, 11, 10);
        g.act(1, 3, 1);
        dueTrace(g);
        g.act(0, 0, 1);
        dueTrace(g, 71, 10);
        g.act(2, 0, 1);
        dueTrace(g);
    }

    private static void image() {
        sentence("THE IMAGE: NEEDS of PLACES, CHILDREN with all that is theirs, HOUR, SEEN, the PLAN, the BOOK, which "
            + "SCHOOL holds.");
        GlobeCorner g = some();
        due("image()", g.image(), 5);
        needAll(g, 99);
        g.child(0, 0);
        g.bell();
        g.row(4, 0, 9);
        g.pass(7);
        school(g, "grow 9");
        g.see(-1, 0, 0);
        g.see(0, 2, g.on(2, 10));
        for (int what = 3; what >= 0; what--) g.plan(what, 4);
        g.plan(-1, 0);
        for (int what = 3; what >= 0; what--) g.plan(what, 4);
        g.book(-1, 0);
        g.book(5, g.spot(5, 0));
        due("undo()", g.undo(), 5);
        due("all", all(g), all(some()));
        g.need(4, 1);
        due("looked(), by the row of the book", g.looked(), NEVER);
        g.pass(7);
        due("undo(), once more", g.undo(), 5);
        due("all", all(g), all(some()));
        due("spot(1, 2), by what was seen", g.spot(1, 2), 1);
    }
}
