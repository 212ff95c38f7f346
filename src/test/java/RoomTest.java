import java.lang.management.ManagementFactory;

/** A run lives in one room: what a call needs is made with the object, and used again by all calls. */
public final class RoomTest {
    private static final int CALLS = 512;
    /** Some 11,000 elements of at most eight bytes, a few hundred of them of longs. */
    private static final long ONE_OBJECT = 64_000;

    public static void main(String[] args) {
        var threads = (com.sun.management.ThreadMXBean) ManagementFactory.getThreadMXBean();
        long id = Thread.currentThread().getId();
        run(new GlobeCorner());
        long start = threads.getThreadAllocatedBytes(id);
        GlobeCorner g = new GlobeCorner();
        long made = threads.getThreadAllocatedBytes(id);
        run(g);
        long end = threads.getThreadAllocatedBytes(id);
        System.out.println("an object has " + (made - start) + " bytes, its calls " + (end - made));
        if (made - start > ONE_OBJECT || end - made > ONE_OBJECT) {
            System.out.println("that is too much");
            System.exit(1);
        }
    }

    private static void run(GlobeCorner g) {
        for (int i = 0; i < 6; i++) g.child(i + 1, i);
        for (int i = 0; i < 6; i++) g.point(i, 0);
        feed(g, "more 9 !(p=1&x<3)|n>5&h<3;less 2 v=3|k=4;grow 3");
        g.school();
        for (int i = 0; i < 5; i++) g.see(0, 12, 0);
        for (int i = 0; i < CALLS; i++) dear(g, i);
    }

    private static void feed(GlobeCorner g, String text) {
        for (int i = 0; i < text.length(); i++) g.feed(text.charAt(i));
    }

    private static void dear(GlobeCorner g, int i) {
        switch (i % 14) {
            case 0: g.spot(0, 2); break;
            case 1: g.told(15); break;
            case 2: g.on(60, 0); break;
            case 3: g.crowd(0, 12); break;
            case 4: g.turn(12); break;
            case 5: g.can(0, 1); break;
            case 6: g.odds(0, 0, 20, 1); break;
            case 7: g.mean(60, 1); break;
            case 8: g.ends(1); break;
            case 9: g.image(); break;
            case 10: g.undo(); break;
            case 11: g.act(5, 2, 9); break;
            case 12: g.tape(i % 6, i % 5, 60); break;
            default: g.school(); break;
        }
    }
}
