/** RUNNING: releases, jobs, switches and ceilings, seen through promises 14 and 16 to 21. */
public final class ScheduleTest {
    private static final int OUT = 1, DONE = 2, TRAP = 3, LOST = 4;

    private ScheduleTest() {
    }

    public static void main(String[] args) {
        oneJobAfterAnother();
        preemption();
        preemptedSwitch();
        preemptedTwice();
        switchBehindIdleAndEnd();
        ceilingKeepsOthersOut();
        lockThatIsNotDoneKeepsNobodyOut();
        nestedCeilings();
        trapFreesResources();
        offsets();
        lostReleases();
        lostByNumber();
        sporadicReleases();
        sporadicSpacing();
        sporadicLost();
        waitingEvents();
        overdueTraps();
        fiveTasks();
        Checks.finish("ScheduleTest");
    }

    private static void entry(CeilingKernel k, int back, int kind, int task, int time, int value) {
        Checks.due("entry(" + back + ", 0)", k.entry(back, 0), kind);
        Checks.due("entry(" + back + ", 1)", k.entry(back, 1), task);
        Checks.due("entry(" + back + ", 2)", k.entry(back, 2), time);
        Checks.due("entry(" + back + ", 3)", k.entry(back, 3), value);
    }

    /** Cycles one by one: a digit is the task that gets it, '.' an idle one. */
    private static void timeline(CeilingKernel k, String name, String want) {
        StringBuilder got = new StringBuilder();
        for (int i = 0; i < want.length(); i++) {
            k.run(1);
            got.append(k.state(1) == -1 ? "." : String.valueOf(k.state(1)));
        }
        Checks.due(name + " got " + got + ", due is " + want, got.toString().equals(want), true);
    }

    /** Tasks with periods of 100 and these offsets, and a routine 0 each. */
    private static CeilingKernel set(int[] offsets, String... routines) {
        CeilingKernel k = new CeilingKernel();
        for (int i = 0; i < offsets.length; i++) {
            Checks.due("task " + i, k.task(100, 100, offsets[i]), i);
            Asm.put(k, i, 0, routines[i].split("; "));
        }
        Checks.due("admit()", k.admit(), 0);
        Checks.due("start()", k.start(), true);
        return k;
    }

    private static void oneJobAfterAnother() {
        CeilingKernel k = set(new int[] {0, 0}, "SET 0 0; OUT 0", "OUT 1");
        timeline(k, "by number", "0000111..");
        entry(k, 3, OUT, 0, 4, 0);
        entry(k, 2, DONE, 0, 4, 4);
        entry(k, 1, OUT, 1, 7, 0);
        entry(k, 0, DONE, 1, 7, 7);
        Checks.due("switches", k.state(2), 2);
        Checks.due("idle", k.state(6), 2);
        Checks.due("entries", k.state(3), 4);
    }

    private static void preemption() {
        String lower = "SET 1 1; DIV 1 1; SET 0 0";
        CeilingKernel k = set(new int[] {3, 0}, "SET 0 0", lower);
        timeline(k, "between two instructions", "1110001111111.");
        entry(k, 1, DONE, 0, 6, 3);
        entry(k, 0, DONE, 1, 13, 13);
        Checks.due("switches", k.state(2), 3);
        k = set(new int[] {5, 0}, "SET 0 0", lower);
        timeline(k, "within an instruction", "1111100011111.");
        entry(k, 1, DONE, 0, 8, 3);
        entry(k, 0, DONE, 1, 13, 13);
        Checks.due("switches", k.state(2), 3);
    }

    private static void preemptedSwitch() {
        CeilingKernel k = set(new int[] {1, 0}, "SET 0 0", "SET 1 1");
        timeline(k, "within a switch", "1000111.");
        entry(k, 1, DONE, 0, 4, 3);
        entry(k, 0, DONE, 1, 7, 7);
        Checks.due("switches", k.state(2), 3);
    }

    private static void preemptedTwice() {
        // Task 2 has 1 cycle of its switch, then of its second one, and only the third is whole.
        CeilingKernel k = set(new int[] {5, 1, 0}, "SET 0 0", "SET 1 1", "SET 1 1");
        timeline(k, "within two switches", "21112000222.");
        entry(k, 0, DONE, 2, 11, 11);
        Checks.due("switches", k.state(2), 5);
    }

    private static void switchBehindIdleAndEnd() {
        CeilingKernel k = new CeilingKernel();
        k.task(3, 3, 0);
        Asm.put(k, 0, 0, "SET 0 0");
        Checks.due("admit()", k.admit(), 0);
        k.start();
        Checks.due("three jobs, one behind the other", k.run(9), 3);
        Checks.due("each with its switch", k.state(2), 3);
        Checks.due("none lost", k.state(5), 0);
        Checks.due("none overdue", k.state(4), 0);
        Checks.due("no cycle idle", k.state(6), 0);
        entry(k, 0, DONE, 0, 9, 3);
        k = new CeilingKernel();
        k.task(5, 5, 0);
        Asm.put(k, 0, 0, "SET 0 0");
        k.admit();
        k.start();
        timeline(k, "idle between", "000..000..0");
        Checks.due("switches", k.state(2), 3);
        Checks.due("idle", k.state(6), 4);
    }

    private static void ceilingKeepsOthersOut() {
        CeilingKernel k = set(new int[] {6, 5, 0}, "LOCK 0; UNLOCK", "OUT 0", "LOCK 0; LOAD 0 0; LOAD 0 0; UNLOCK; SET 0 0");
        timeline(k, "the job that holds 0", "22222222");
        Checks.due("its active number", k.job(2, 0), 0);
        Checks.due("what it holds", k.job(2, 3), 1);
        Checks.due("task 0 waits", k.job(0, 1), 2);
        Checks.due("active number of task 0", k.job(0, 0), 0);
        Checks.due("active number of task 1", k.job(1, 0), 1);
        timeline(k, "up to its UNLOCK", "2");
        Checks.due("its active number then", k.job(2, 0), 2);
        Checks.due("what it holds then", k.job(2, 3), 0);
        timeline(k, "then by number", "00000111222.");
        entry(k, 3, DONE, 0, 14, 8);
        entry(k, 2, OUT, 1, 17, 0);
        entry(k, 1, DONE, 1, 17, 12);
        entry(k, 0, DONE, 2, 20, 20);
        Checks.due("switches", k.state(2), 4);
        k.run(79);
        timeline(k, "the same once more", "22222222200000111222.");
    }

    private static void lockThatIsNotDoneKeepsNobodyOut() {
        CeilingKernel k = set(new int[] {3, 0}, "LOCK 0; UNLOCK", "LOCK 0; UNLOCK");
        timeline(k, "within LOCK", "111000001111.");
        entry(k, 1, DONE, 0, 8, 5);
        entry(k, 0, DONE, 1, 12, 12);
    }

    private static void nestedCeilings() {
        // Ceilings: 0 is that of resource 3, 1 that of resource 1, and 2 that of resource 2.
        CeilingKernel k = set(new int[] {9, 7, 0}, "LOCK 3; UNLOCK", "LOCK 1; UNLOCK",
                "LOCK 2; LOCK 1; LOCK 3; UNLOCK; UNLOCK; UNLOCK; SET 0 0");
        int[] active = {2, 2, 2, 2, 2, 1, 1, 0, 1};
        for (int cycle = 0; cycle < active.length; cycle++) {
            k.run(1);
            Checks.due("active number behind cycle " + cycle, k.job(2, 0), active[cycle]);
        }
        Checks.due("it holds 2 and 1", k.job(2, 3), 6);
        // Task 1 came at 7 and waits for resource 1; task 0 came at 9 and need not.
        timeline(k, "task 0 over ceiling 1", "00000222");
        timeline(k, "then task 1, then task 2", "111112222.");
        entry(k, 2, DONE, 0, 14, 5);
        entry(k, 1, DONE, 1, 22, 15);
        entry(k, 0, DONE, 2, 26, 26);
    }

    private static void trapFreesResources() {
        CeilingKernel k = set(new int[] {5, 0}, "LOCK 0; OUT 0; UNLOCK", "LOCK 0; LOCK 1; DIV 0 0; UNLOCK; UNLOCK");
        timeline(k, "up to the trap", "1111111111");
        entry(k, 0, TRAP, 1, 10, 10);
        timeline(k, "then task 0", "000000.");
        entry(k, 0, DONE, 0, 16, 11);
        k.run(84);
        Checks.due("the next job holds nothing", k.job(1, 3), 0);
        Checks.due("and is its task's number again", k.job(1, 0), 1);
    }

    private static void offsets() {
        CeilingKernel k = new CeilingKernel();
        k.task(10, 10, 4);
        Asm.put(k, 0, 0, "OUT 0");
        k.admit();
        k.start();
        timeline(k, "offset and period", "....000.......000.......0");
        k = new CeilingKernel();
        k.task(5000, 5000, 5000);
        Asm.put(k, 0, 0, "OUT 0");
        k.admit();
        k.start();
        for (int i = 0; i < 10; i++) {
            Checks.due("nothing before 5000", k.run(500), 0);
        }
        Checks.due("no job at 5000 before the cycle", k.job(0, 1), -1);
        k.run(1);
        Checks.due("a job behind it", k.job(0, 1), 1);
        Checks.due("its entries", k.run(2), 2);
        entry(k, 0, DONE, 0, 5003, 3);
    }

    private static void lostReleases() {
        CeilingKernel k = new CeilingKernel();
        k.task(2, 2, 0);
        Asm.put(k, 0, 0, "SET 0 0");
        Checks.due("late", k.admit(), 8);
        Checks.due("start()", k.start(), true);
        Checks.due("two cycles", k.run(2), 0);
        Checks.due("LOST and DONE in the third", k.run(1), 2);
        entry(k, 1, LOST, 0, 2, 2);
        entry(k, 0, DONE, 0, 3, 3);
        Checks.due("lost", k.state(5), 1);
        Checks.due("overdue", k.state(4), 1);
        timeline(k, "the release after it is due as ever", ".000.000");
        entry(k, 1, LOST, 0, 10, 2);
        entry(k, 0, DONE, 0, 11, 3);
        Checks.due("lost", k.state(5), 3);
        Checks.due("overdue", k.state(4), 3);
        Checks.due("idle", k.state(6), 2);
        Checks.due("worst(0)", k.worst(0), 3);
        Checks.due("entries", k.state(3), 6);
    }

    private static void lostByNumber() {
        CeilingKernel k = new CeilingKernel();
        k.task(4, 4, 0);
        k.task(4, 4, 0);
        Asm.put(k, 0, 0, "LOOP 8", "DIV 1 1", "END");
        Asm.put(k, 1, 0, "SET 0 0");
        Checks.due("late", k.admit(), 8);
        k.start();
        k.run(4);
        Checks.due("two are lost at 4", k.run(1), 2);
        entry(k, 1, LOST, 0, 4, 4);
        entry(k, 0, LOST, 1, 4, 4);
        Checks.due("a trap behind it", k.run(2), 1);
        entry(k, 0, TRAP, 0, 7, 7);
    }

    private static CeilingKernel sporadic(int period) {
        CeilingKernel k = new CeilingKernel();
        k.task(period, period, -1);
        k.task(1000, 1000, 0);
        Asm.put(k, 0, 0, "OUT 0");
        Asm.put(k, 1, 0, "SET 0 0");
        k.admit();
        Checks.due("signal without a run", k.signal(0), false);
        k.start();
        return k;
    }

    private static void sporadicReleases() {
        CeilingKernel k = sporadic(10);
        timeline(k, "no event, no job", "111....");
        Checks.due("signal of a periodic task", k.signal(1), false);
        Checks.due("signal(2)", k.signal(2), false);
        Checks.due("signal(-1)", k.signal(-1), false);
        Checks.due("signal(0)", k.signal(0), true);
        Checks.due("no job yet", k.job(0, 0), -1);
        timeline(k, "at once", "000...");
        entry(k, 0, DONE, 0, 10, 3);
    }

    private static void sporadicSpacing() {
        CeilingKernel k = sporadic(10);
        k.signal(0);
        timeline(k, "the first", "000111..");
        k.signal(0);
        k.signal(0);
        timeline(k, "the others one period apart", "..000.......000.......");
        k.run(5);
        Checks.due("35 cycles", k.state(0), 35);
        k.signal(0);
        timeline(k, "long behind the one before", "000..");
        k.signal(0);
        timeline(k, "a period behind that", ".....000.");
        entry(k, 0, DONE, 0, 48, 3);
    }

    private static void sporadicLost() {
        CeilingKernel k = sporadic(2);
        for (int i = 0; i < 4; i++) {
            Checks.due("signal " + i, k.signal(0), true);
        }
        // Due at 0, 2 (lost), 4, 6 (lost).
        timeline(k, "lost releases keep the period", "0001000");
        entry(k, 2, LOST, 0, 6, 2);
        entry(k, 1, OUT, 0, 7, 0);
        entry(k, 0, DONE, 0, 7, 3);
        Checks.due("lost", k.state(5), 2);
        Checks.due("signal at 7", k.signal(0), true);
        timeline(k, "not before 8", "1000111.");
    }

    private static void waitingEvents() {
        CeilingKernel k = sporadic(10);
        for (int i = 0; i < 4; i++) {
            Checks.due("signal " + i, k.signal(0), true);
        }
        Checks.due("a fifth", k.signal(0), false);
        k.run(1);
        Checks.due("one is released", k.signal(0), true);
        Checks.due("four wait again", k.signal(0), false);
        k.run(9);
        Checks.due("the second is due at 10, before the next cycle", k.signal(0), false);
        k.run(1);
        Checks.due("now it is released", k.signal(0), true);
        k.run(60);
        // At 0, 10, 20, 30, 40, 50.
        Checks.due("the job at 50", k.entry(0, 2), 53);
        Checks.due("nothing waits", k.job(0, 0), -1);
        k.signal(0);
        k.halt();
        k.start();
        Checks.due("no event waits in the next run", k.run(20), 1);
        Checks.due("signal in the next run", k.signal(0), true);
        Checks.due("its job", k.run(3), 2);
    }

    private static void overdueTraps() {
        CeilingKernel k = new CeilingKernel();
        k.task(20, 5, 0);
        Asm.put(k, 0, 0, "DIV 0 0");
        Checks.due("late", k.admit(), 8);
        k.start();
        k.run(20);
        entry(k, 0, TRAP, 0, 6, 6);
        Checks.due("a trap may be overdue", k.state(4), 1);
        Checks.due("worst(0)", k.worst(0), 6);
        k = new CeilingKernel();
        k.task(20, 6, 0);
        Asm.put(k, 0, 0, "DIV 0 0");
        Checks.due("not late", k.admit(), 0);
        k.start();
        k.run(20);
        Checks.due("the deadline itself is not overdue", k.state(4), 0);
    }

    private static void fiveTasks() {
        CeilingKernel k = set(new int[] {8, 6, 4, 2, 0}, "SET 0 0", "SET 0 0", "SET 0 0", "SET 0 0", "SET 0 0");
        timeline(k, "each over the one before", "44332211000111222333444.");
        Checks.due("switches", k.state(2), 9);
        entry(k, 4, DONE, 0, 11, 3);
        entry(k, 3, DONE, 1, 14, 8);
        entry(k, 2, DONE, 2, 17, 13);
        entry(k, 1, DONE, 3, 20, 18);
        entry(k, 0, DONE, 4, 23, 23);
    }
}
