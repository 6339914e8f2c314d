import java.util.ArrayList;
import java.util.List;

/** What each instruction does in a run and how many cycles it takes (promises 16, 18, 20, 21). */
public final class InstructionTest {
    private InstructionTest() {
    }

    public static void main(String[] args) {
        costs();
        setAndAdd();
        div();
        traps();
        jobsBehindATrap();
        words();
        jumps();
        loops();
        calls();
        locks();
        ports();
        mailboxes();
        instructionsDone();
        Checks.finish("InstructionTest");
    }

    /** The values of all OUT entries that are kept, the oldest first. */
    private static List<Integer> outs(CeilingKernel k) {
        List<Integer> values = new ArrayList<>();
        for (int back = 31; back >= 0; back--) {
            if (k.entry(back, 0) == 1) {
                values.add(k.entry(back, 3));
            }
        }
        return values;
    }

    private static void outs(CeilingKernel k, String name, Integer... want) {
        List<Integer> got = outs(k);
        Checks.due(name + " gave " + got + " instead of " + List.of(want), got.equals(List.of(want)), true);
    }

    private static CeilingKernel ran(String... lines) {
        CeilingKernel k = Asm.aloneStarted(lines);
        k.run(500);
        return k;
    }

    /** The job is alone: it ends 2 cycles of the switch and those of its instructions after 0. */
    private static void cost(int cycles, String... lines) {
        CeilingKernel k = Asm.aloneStarted(lines);
        String name = String.join("; ", lines);
        k.run(2 + cycles - 1);
        Checks.due("not yet: " + name, k.job(0, 1), 2 + cycles - 1);
        k.run(1);
        Checks.due("ended: " + name, k.job(0, 1), -1);
        Checks.due("kind: " + name, k.entry(0, 0), 2);
        Checks.due("time: " + name, k.entry(0, 2), 2 + cycles);
        Checks.due("value: " + name, k.entry(0, 3), 2 + cycles);
    }

    private static void costs() {
        cost(1, "SET 0 1");
        cost(1, "ADD 0 1");
        cost(1 + 4, "SET 1 1", "DIV 0 1");
        cost(2, "LOAD 0 1");
        cost(2, "STORE 0 1");
        cost(2, "JZ 0 1", "SET 0 0");
        cost(1 + 2 + 1, "SET 0 5", "JZ 0 1", "SET 0 0");
        cost(1 + 1, "LOOP 1", "END");
        cost(1 + 8, "LOOP 8", "END");
        cost(2 + 1, "LOCK 1", "UNLOCK");
        cost(1, "IN 0 1");
        cost(1, "OUT 0");
        cost(2, "SEND 0 1");
        cost(2, "RECEIVE 0 1");
    }

    private static void setAndAdd() {
        CeilingKernel k = ran("SET 2 -5", "OUT 2", "SET 3 2147483647", "OUT 3", "SET 0 1", "ADD 3 0", "OUT 3", "ADD 0 0", "OUT 0", "OUT 1");
        outs(k, "SET and ADD", -5, Integer.MAX_VALUE, Integer.MIN_VALUE, 2, 0);
    }

    private static void div() {
        outs(ran("SET 0 -7", "SET 1 2", "DIV 0 1", "OUT 0", "OUT 1"), "-7 / 2", -3, 2);
        outs(ran("SET 0 7", "SET 1 -2", "DIV 0 1", "OUT 0"), "7 / -2", -3);
        outs(ran("SET 0 -2147483648", "SET 1 -1", "DIV 0 1", "OUT 0"), "the least by -1", Integer.MIN_VALUE);
        outs(ran("SET 3 9", "DIV 3 3", "OUT 3"), "9 / 9", 1);
        outs(ran("SET 3 9", "DIV 2 3", "OUT 2"), "0 / 9", 0);
    }

    private static void traps() {
        CeilingKernel k = Asm.aloneStarted("SET 0 3", "DIV 0 1", "OUT 0");
        Checks.due("before the trap", k.run(6), 0);
        Checks.due("the trap", k.run(1), 1);
        Checks.due("kind", k.entry(0, 0), 3);
        Checks.due("task", k.entry(0, 1), 0);
        Checks.due("time", k.entry(0, 2), 7);
        Checks.due("value", k.entry(0, 3), 7);
        Checks.due("the job has ended", k.job(0, 0), -1);
        Checks.due("nothing comes behind it", k.run(100), 0);
        Checks.due("worst(0)", k.worst(0), 7);
        Checks.due("kind of 0 by itself", ran("DIV 1 1").entry(0, 0), 3);
        CeilingKernel called = Asm.alone("CALL 2", "OUT 0");
        Asm.put(called, 0, 2, "LOOP 2", "DIV 0 0", "END");
        called.admit();
        called.start();
        Checks.due("a trap in a routine ends the job", called.run(100), 1);
        Checks.due("its time", called.entry(0, 2), 2 + 2 + 1 + 4);
    }

    private static void jobsBehindATrap() {
        CeilingKernel k = new CeilingKernel();
        k.task(50, 50, 0);
        Asm.put(k, 0, 0, "CALL 1", "OUT 1");
        Asm.put(k, 0, 1, "LOAD 1 0", "SET 2 6", "STORE 2 0", "CALL 2", "SET 3 1");
        Asm.put(k, 0, 2, "DIV 2 1", "OUT 2");
        Checks.due("admit()", k.admit(), 0);
        k.start();
        Checks.due("the first job traps in routine 2", k.run(50), 1);
        Checks.due("kind", k.entry(0, 0), 3);
        Checks.due("the next one begins anew", k.run(50), 3);
        outs(k, "the next one", 1, 6);
        Checks.due("and is done", k.entry(0, 0), 2);
        Checks.due("its value", k.entry(0, 3), 2 + 2 + 2 + 1 + 2 + 2 + 4 + 1 + 1 + 1);
    }

    private static void words() {
        CeilingKernel k = new CeilingKernel();
        k.task(20, 20, 0);
        Asm.put(k, 0, 0, "LOAD 1 7", "SET 2 3", "ADD 1 2", "STORE 1 7", "STORE 3 0", "SET 3 9");
        Checks.due("admit()", k.admit(), 0);
        Checks.due("word without a run", k.word(0, 7), -1);
        k.start();
        Checks.due("word(0, 7) at first", k.word(0, 7), 0);
        k.run(7);
        Checks.due("word(0, 7) in the last cycle but one", k.word(0, 7), 0);
        k.run(1);
        Checks.due("word(0, 7) behind STORE", k.word(0, 7), 3);
        k.run(40);
        Checks.due("words stay for the next job", k.word(0, 7), 9);
        Checks.due("registers do not", k.word(0, 0), 0);
        Checks.due("word(0, 8)", k.word(0, 8), -1);
        Checks.due("word(0, -1)", k.word(0, -1), -1);
        Checks.due("word(1, 0)", k.word(1, 0), -1);
        Checks.due("word(-1, 0)", k.word(-1, 0), -1);
        k.halt();
        k.start();
        Checks.due("words of the next run", k.word(0, 7), 0);
        CeilingKernel two = new CeilingKernel();
        two.task(100, 100, 0);
        two.task(100, 100, 0);
        Asm.put(two, 0, 0, "SET 1 -1", "STORE 1 4");
        Asm.put(two, 1, 0, "LOAD 1 4", "OUT 1");
        two.admit();
        two.start();
        two.run(50);
        Checks.due("a word that is -1 itself", two.word(0, 4), -1);
        outs(two, "words are each task's own", 0);
    }

    private static void jumps() {
        outs(ran("JZ 0 1", "OUT 0", "SET 1 1", "OUT 1"), "JZ over one", 1);
        outs(ran("SET 0 4", "JZ 0 1", "OUT 0", "OUT 1"), "JZ goes on", 4, 0);
        outs(ran("OUT 0", "JZ 3 2", "OUT 0", "OUT 0"), "JZ behind the last", 0);
        // The second jump leads beyond the target of the first.
        outs(ran("SET 1 1", "JZ 1 3", "OUT 1", "JZ 0 2", "OUT 1", "OUT 1", "SET 2 7", "OUT 2"), "JZ over JZ's target", 1, 7);
        // In each round but the first.
        outs(ran("SET 1 1", "LOOP 3", "JZ 1 1", "OUT 1", "SET 1 0", "END", "OUT 2"), "JZ to the place before END", 1, 0);
        outs(ran("LOOP 3", "SET 2 3", "OUT 2", "JZ 0 1", "OUT 0", "END"), "JZ to END", 3, 3, 3);
        CeilingKernel k = Asm.alone("CALL 1", "SET 1 5", "OUT 1");
        Asm.put(k, 0, 1, "JZ 1 1", "OUT 1");
        k.admit();
        k.start();
        k.run(50);
        outs(k, "JZ behind the last of a called routine", 5);
    }

    private static void loops() {
        CeilingKernel k = ran("SET 1 1", "LOOP 8", "ADD 0 1", "END", "OUT 0");
        outs(k, "eight rounds", 8);
        k = ran("SET 1 1", "LOOP 3", "LOOP 4", "ADD 0 1", "END", "LOOP 2", "ADD 2 1", "END", "END", "OUT 0", "OUT 2");
        outs(k, "loops in a loop", 12, 6);
        k = Asm.alone("SET 1 1", "LOOP 2", "CALL 1", "CALL 2", "END", "OUT 0", "OUT 3");
        Asm.put(k, 0, 1, "LOOP 5", "ADD 0 1", "CALL 2", "END");
        Asm.put(k, 0, 2, "LOOP 3", "ADD 3 1", "END");
        k.admit();
        k.start();
        k.run(500);
        outs(k, "loops in calls in loops", 10, 36);
    }

    private static void calls() {
        CeilingKernel k = Asm.alone("SET 1 1", "CALL 1", "OUT 1", "CALL 2");
        Asm.put(k, 0, 1, "ADD 1 1", "CALL 2", "ADD 1 1", "CALL 2");
        Asm.put(k, 0, 2, "OUT 1");
        k.admit();
        k.start();
        k.run(500);
        outs(k, "calls", 2, 4, 4, 4);
        int end = 2 + 1 + 2 + 1 + 3 + 1 + 3 + 1 + 3;
        Checks.due("the job ends with the routine that was called last", k.entry(0, 2), end);
        Checks.due("kind", k.entry(0, 0), 2);
        Checks.due("in the cycle of that OUT", k.entry(1, 2), end);
    }

    private static void locks() {
        CeilingKernel k = Asm.alone("LOCK 2", "CALL 1", "UNLOCK", "SET 0 0");
        Asm.put(k, 0, 1, "LOCK 0", "LOCK 3", "UNLOCK", "UNLOCK");
        k.admit();
        k.start();
        int[] heldBehindCycle = {0, 0, 0, 4, 4, 4, 4, 5, 5, 13, 5, 4, 0, -1};
        for (int cycle = 0; cycle < heldBehindCycle.length; cycle++) {
            k.run(1);
            Checks.due("held behind cycle " + cycle, k.job(0, 3), heldBehindCycle[cycle]);
        }
        CeilingKernel jump = ran("LOCK 1", "JZ 0 2", "LOCK 2", "UNLOCK", "UNLOCK", "LOCK 1", "UNLOCK");
        Checks.due("a JZ over a section: its end", jump.entry(0, 2), 2 + 2 + 2 + 1 + 2 + 1);
    }

    private static void ports() {
        CeilingKernel k = Asm.alone("IN 1 0", "OUT 1", "IN 1 1", "OUT 1", "IN 1 0", "OUT 1");
        k.admit();
        Checks.due("input without a run", k.input(0, 5), false);
        k.start();
        Checks.due("input(1, 8)", k.input(1, 8), true);
        Checks.due("input(2, 1)", k.input(2, 1), false);
        Checks.due("input(-1, 1)", k.input(-1, 1), false);
        k.run(4);
        Checks.due("input(0, -2147483648)", k.input(0, Integer.MIN_VALUE), true);
        Checks.due("input(0, 6)", k.input(0, 6), true);
        k.run(100);
        outs(k, "ports", 0, 8, 6);
        k.halt();
        k.start();
        k.run(100);
        outs(k, "ports of the next run", 0, 0, 0);
    }

    private static void mailboxes() {
        CeilingKernel k = ran("SET 1 11", "SEND 1 0", "OUT 0", "ADD 1 1", "SEND 1 0", "RECEIVE 2 0", "OUT 2", "RECEIVE 2 0",
                "OUT 2", "RECEIVE 2 0", "OUT 2", "OUT 0");
        outs(k, "the one that is there longest first", 1, 11, 22, 22, 0);
        k = ran("LOOP 4", "ADD 1 0", "SEND 1 1", "OUT 0", "END", "LOOP 3", "RECEIVE 3 1", "OUT 3", "END", "RECEIVE 3 0", "OUT 0");
        // r1 is 0, 1, 2, 3; the fourth does not go in.
        outs(k, "room for three", 1, 1, 1, 0, 0, 1, 2, 0);
        k = ran("SET 0 7", "SEND 0 0", "OUT 0", "RECEIVE 0 0", "OUT 0", "RECEIVE 0 0", "OUT 0", "RECEIVE 0 1", "OUT 0");
        outs(k, "r0 itself", 1, 1, 0, 0);
        k = ran("SET 0 7", "SEND 0 1", "RECEIVE 2 1", "OUT 2", "SET 3 9", "RECEIVE 3 1", "OUT 3", "OUT 0");
        outs(k, "r0 goes in as it was; an empty mailbox leaves rx", 7, 9, 0);
        mailboxOfTwoTasks();
    }

    private static void mailboxOfTwoTasks() {
        CeilingKernel k = new CeilingKernel();
        k.task(100, 100, 0);
        k.task(100, 100, 0);
        Asm.put(k, 0, 0, "SET 1 5", "SEND 1 0", "SEND 1 0");
        Asm.put(k, 1, 0, "RECEIVE 2 0", "OUT 2");
        k.admit();
        k.start();
        k.run(50);
        outs(k, "from one task to another", 5);
        k.halt();
        k.wipe(0);
        Asm.put(k, 0, 0, "RECEIVE 1 0", "OUT 0");
        k.admit();
        k.start();
        k.run(5);
        outs(k, "mailboxes of the next run", 0);
    }

    private static void instructionsDone() {
        CeilingKernel k = Asm.alone("LOOP 2", "CALL 1", "END", "JZ 0 1", "SET 0 0", "LOAD 0 0");
        Asm.put(k, 0, 1, "SET 1 1");
        k.admit();
        k.start();
        // LOOP, CALL (2), SET, END, CALL (2), SET, END, JZ (2), LOAD (2)
        int[] behindCycle = {0, 0, 1, 1, 2, 3, 4, 4, 5, 6, 7, 7, 8, 8, -1};
        for (int cycle = 0; cycle < behindCycle.length; cycle++) {
            k.run(1);
            Checks.due("instructions done behind cycle " + cycle, k.job(0, 2), behindCycle[cycle]);
        }
    }
}
