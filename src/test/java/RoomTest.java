import java.lang.management.ManagementFactory;

/** What a run makes is kept small: the dearest calls, as often as a run may have them, use their rows again. */
public final class RoomTest extends Kit {
    private static final com.sun.management.ThreadMXBean THREADS = (com.sun.management.ThreadMXBean) ManagementFactory.getThreadMXBean();

    /** Far below 7.3 million fields and elements, and of some 600,000 objects of sixteen bytes at least. */
    private static final long MOST_BYTES = 2_000_000;

    private static final int CALLS = 480;

    /** Five doors, a draught: all that ways are searched through. */
    private static final String FIVE = "row wwwwwwwwww;row ffffffffff;row ffffffffff;row wwwwwwwwww;door da 0 0 along 1 2;"
        + "door db 2 0 along 1 2;door dc 4 0 along 1 2;door dd 6 0 along 1 2;door de 8 0 along 1 2;draught da db dc;bed 0 2;";

    public static void main(String[] args) {
        promise = "room";
        for (int which = 0; which < 8; which++) {
            long bytes = made(which);
            due("a run of the dearest calls, case " + which + ", makes " + bytes + " bytes; few enough", bytes < MOST_BYTES, true);
        }
        finish("RoomTest");
    }

    /** Bytes, those of a house told and of each call. */
    private static long made(int which) {
        long before = THREADS.getThreadAllocatedBytes(Thread.currentThread().getId());
        BitingDoors x = of(FIVE);
        for (int i = 0; i < CALLS; i++) {
            call(x, which, i);
        }
        return THREADS.getThreadAllocatedBytes(Thread.currentThread().getId()) - before;
    }

    private static int call(BitingDoors x, int which, int i) {
        switch (which) {
            case 0: return x.way(i % 10, 1);
            case 1: return x.reach(i % 2);
            case 2: return x.stride();
            case 3: return x.joiner() + x.stuck() + x.ways();
            case 4: return x.house();
            case 5: return x.day() + x.judge() + x.live();
            case 6: return x.sentence() + x.said();
            default: return x.image(i % 2) && x.restore(i % 2) ? x.quiet() : 0;
        }
    }
}
