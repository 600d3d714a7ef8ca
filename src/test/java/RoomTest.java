import com.sun.management.ThreadMXBean;
import java.lang.management.ManagementFactory;

/** What the dearest runs take stays far below the room that all calls of a run share. */
public final class RoomTest {
    /** 7.3 million cells of 4 bytes hold some 29 million bytes; a tenth of that is plenty for 512 calls. */
    private static final long MOST = 2_900_000;

    private static final Due due = new Due();
    private static final ThreadMXBean THREADS = (ThreadMXBean) ManagementFactory.getThreadMXBean();

    public static void main(String[] args) {
        taken("512 new objects", RoomTest::newObjects);
        taken("saves of all there can be", RoomTest::fullSaves);
        taken("objects made again and again", RoomTest::madeAgain);
        due.end();
    }

    private static void taken(String what, Runnable run) {
        run.run();
        long before = THREADS.getCurrentThreadAllocatedBytes();
        run.run();
        long bytes = THREADS.getCurrentThreadAllocatedBytes() - before;
        System.out.println(what + ": " + bytes + " bytes");
        due.yes(what, bytes < MOST);
    }

    private static void newObjects() {
        for (int k = 0; k < 512; k++) {
            new ObjectRows().used();
        }
    }

    private static void fullSaves() {
        ObjectRows x = new ObjectRows();
        for (int k = 0; k < 96; k++) {
            x.make(Kinds.DICTIONARY, 32);
        }
        for (int k = 0; k < 69; k++) {
            x.make(Kinds.SAVE, 0);
            x.make(Kinds.SAVE, 0);
            x.make(Kinds.SAVE, 0);
            x.restore(99);
            x.restore(98);
            x.restore(97);
        }
    }

    private static void madeAgain() {
        ObjectRows x = new ObjectRows();
        for (int turn = 0; turn < 5; turn++) {
            int save = x.make(Kinds.SAVE, 0);
            for (int k = 0; k < 98; k++) {
                x.make(Kinds.STRING + k % 4, k < 32 ? k : 32);
            }
            x.restore(save);
        }
    }
}
