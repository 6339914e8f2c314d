import com.sun.management.ThreadMXBean;
import java.lang.management.ManagementFactory;

/** All calls of a run share one room, so an object makes what it needs once and a call makes nothing. */
public final class RoomTest {
    private static final int ROUNDS = 2000;
    /** Far below one object a round; the machine itself may make something now and then. */
    private static final long FREE = 16 * 1024;
    private static final long MOST_OF_AN_OBJECT = 32 * 1024;

    private RoomTest() {
    }

    public static void main(String[] args) {
        ThreadMXBean threads = (ThreadMXBean) ManagementFactory.getThreadMXBean();
        long self = Thread.currentThread().getId();
        work(withTasks());
        long before = threads.getThreadAllocatedBytes(self);
        CeilingKernel k = withTasks();
        long made = threads.getThreadAllocatedBytes(self);
        Checks.due("an object is small", made - before < MOST_OF_AN_OBJECT, true);
        for (int i = 0; i < ROUNDS; i++) {
            work(k);
        }
        long used = threads.getThreadAllocatedBytes(self) - made;
        Checks.due("calls made " + used + " bytes", used < FREE, true);
        Checks.finish("RoomTest");
    }

    private static CeilingKernel withTasks() {
        CeilingKernel k = new CeilingKernel();
        k.task(20, 20, 0);
        k.task(40, 40, -1);
        return k;
    }

    /** Each kind of call, with a set that locks, calls, loops and sends. */
    private static void work(CeilingKernel k) {
        k.wipe(0);
        k.wipe(1);
        k.code(0, 0, Asm.LOCK, 0, 1);
        k.code(0, 0, Asm.SEND, 0, 1);
        k.code(0, 0, Asm.UNLOCK, 0, 0);
        k.code(1, 0, Asm.CALL, 0, 1);
        k.code(1, 1, Asm.LOOP, 0, 3);
        k.code(1, 1, Asm.LOCK, 0, 1);
        k.code(1, 1, Asm.RECEIVE, 2, 1);
        k.code(1, 1, Asm.UNLOCK, 0, 0);
        k.code(1, 1, Asm.END, 0, 0);
        k.code(1, 0, Asm.OUT, 2, 0);
        k.admit();
        if (!k.start()) {
            Checks.due("the set runs", false, true);
        }
        k.signal(1);
        k.signal(1);
        k.input(0, k.place() + k.wcet(0) + k.section(1, 1) + k.blocking(0) + k.response(0) + k.ceiling(1));
        k.run(60);
        k.input(1, k.state(2) + k.job(1, 0) + k.worst(1) + k.word(1, 0) + k.entry(3, 3));
        k.halt();
    }
}
