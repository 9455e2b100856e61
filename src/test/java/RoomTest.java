import java.lang.management.ManagementFactory;

/**
 * All calls of a run live in one room (LANGUAGE.md, rule 12): a new object is small, and no call that is
 * let through makes anything, the dearest ones neither.
 */
public final class RoomTest {
    private static final int OBJECTS = 200;
    /** Some 100 objects and arrays of some 700 fields and elements in all. */
    private static final long BYTES_OF_AN_OBJECT = 8000;
    private static final int ROUNDS = 100;
    /** The measure itself may cost a little. */
    private static final long BYTES_OF_ALL_CALLS = 4000;

    private static final com.sun.management.ThreadMXBean THREADS =
        (com.sun.management.ThreadMXBean) ManagementFactory.getThreadMXBean();

    private RoomTest() {
    }

    public static void main(String[] args) {
        long before = used();
        PairedWords x = new PairedWords();
        for (int i = 0; i < OBJECTS; i++) {
            x = new PairedWords();
        }
        long each = (used() - before) / OBJECTS;
        Story.claim("an object is small, not " + each + " bytes", each < BYTES_OF_AN_OBJECT);

        askAll(x);
        before = used();
        build(x);
        for (int i = 0; i < ROUNDS; i++) {
            askAll(x);
        }
        long all = used() - before;
        Story.claim("calls make nothing, not " + all + " bytes", all < BYTES_OF_ALL_CALLS);
        Story.end();
    }

    private static long used() {
        return THREADS.getThreadAllocatedBytes(Thread.currentThread().getId());
    }

    private static void build(PairedWords x) {
        x.pair(1, 0);
        x.pair(1, 1);
        x.pair(0, 1);
        x.rule(3, 0);
        x.context(0, true, false);
        x.element(0, true, 7, true);
        x.entry(0, 0);
        x.entry(0, PairedWords.END);
        x.spell(0, 1);
        for (int i = 0; i < 4; i++) {
            x.type(false, 1);
            x.type(true, 1);
        }
        x.sample();
    }

    private static void askAll(PairedWords x) {
        x.belong();
        x.blame();
        x.check();
        if (x.analyse() > 0) {
            x.length(0, true);
            x.result(0, 0, true);
        }
        x.write();
        x.length(0, false);
        x.wipe(true);
        x.type(true, 1);
    }
}
