/** Promises 12 to 21 at their edges: start, halt, signal, input, run, state, job, worst, word, entry. */
public final class RunTest {
    private static final int[] FAR = {Integer.MIN_VALUE, Integer.MAX_VALUE};

    private RunTest() {
    }

    public static void main(String[] args) {
        startNeedsFigures();
        haltEndsTheRun();
        nothingIsLeftToTheNextRun();
        noCountIsLeftToTheNextRun();
        refusedHaltAndStartChangeNothing();
        runEdges();
        runCountsEntries();
        stateAtFirst();
        stateInARun();
        jobEdges();
        worstValues();
        wordEdges();
        entryEdges();
        latestEntriesAreKept();
        longRun();
        Checks.finish("RunTest");
    }

    private static void startNeedsFigures() {
        CeilingKernel k = Asm.alone("SET 0 0");
        Checks.due("start() before admit()", k.start(), false);
        Checks.due("no run", k.state(0), -1);
        Checks.due("admit()", k.admit(), 0);
        Checks.due("start()", k.start(), true);
        Checks.due("a run", k.state(0), 0);
        Checks.due("start() in a run", k.start(), false);
        k.halt();
        Checks.due("start() again", k.start(), true);
    }

    private static void haltEndsTheRun() {
        CeilingKernel k = Asm.alone("SET 0 0");
        k.task(10, 10, -1);
        Asm.put(k, 1, 0, "SET 0 0");
        Checks.due("halt() without a run", k.halt(), false);
        k.admit();
        k.start();
        k.run(10);
        Checks.due("halt()", k.halt(), true);
        Checks.due("halt() again", k.halt(), false);
        Checks.due("run(1)", k.run(1), -1);
        Checks.due("state(0)", k.state(0), -1);
        Checks.due("job(0, 0)", k.job(0, 0), -1);
        Checks.due("worst(0)", k.worst(0), -1);
        Checks.due("word(0, 0)", k.word(0, 0), -1);
        Checks.due("entry(0, 0)", k.entry(0, 0), -1);
        Checks.due("signal(1)", k.signal(1), false);
        Checks.due("input(0, 0)", k.input(0, 0), false);
    }

    private static void nothingIsLeftToTheNextRun() {
        CeilingKernel k = Asm.alone("LOCK 0", "IN 1 0", "STORE 1 5", "UNLOCK", "LOCK 1", "LOOP 8", "SEND 1 0", "END", "UNLOCK");
        k.admit();
        for (int round = 0; round < 3; round++) {
            k.start();
            Checks.due("cycles", k.state(0), 0);
            Checks.due("latest", k.state(1), -1);
            for (int what = 2; what <= 6; what++) {
                Checks.due("state(" + what + ")", k.state(what), 0);
            }
            Checks.due("job", k.job(0, 0), -1);
            Checks.due("worst", k.worst(0), 0);
            Checks.due("word", k.word(0, 5), 0);
            Checks.due("entry", k.entry(0, 0), -1);
            Checks.due("input(0, 9)", k.input(0, 9), true);
            // Ends in the middle of the section.
            k.run(5);
            Checks.due("held", k.job(0, 3), 1);
            Checks.due("done", k.job(0, 2), 2);
            k.run(2);
            Checks.due("word behind STORE", k.word(0, 5), 9);
            k.run(8);
            Checks.due("held", k.job(0, 3), 2);
            k.halt();
        }
        k.start();
        Checks.due("all of it", k.run(60), 1);
        Checks.due("its value", k.worst(0), 2 + 2 + 1 + 2 + 1 + 2 + 1 + 8 * 3 + 1);
    }

    private static void noCountIsLeftToTheNextRun() {
        CeilingKernel k = new CeilingKernel();
        k.task(2, 2, 3);
        Asm.put(k, 0, 0, "SET 0 0");
        k.admit();
        for (int round = 0; round < 2; round++) {
            k.start();
            Checks.due("worst at first", k.worst(0), 0);
            k.run(6);
            int[] want = {6, 0, 1, 2, 1, 1, 3};
            for (int what = 0; what <= 6; what++) {
                Checks.due("state(" + what + ") in round " + round, k.state(what), want[what]);
            }
            Checks.due("worst", k.worst(0), 3);
            k.halt();
        }
    }

    private static void refusedHaltAndStartChangeNothing() {
        CeilingKernel k = Asm.aloneStarted("DIV 0 0");
        k.run(4);
        Checks.due("start()", k.start(), false);
        Checks.due("run(0)", k.run(0), -1);
        Checks.due("run(501)", k.run(501), -1);
        Checks.due("cycles", k.state(0), 4);
        Checks.due("the job goes on", k.job(0, 1), 4);
        k.run(2);
        Checks.due("the trap", k.entry(0, 2), 6);
    }

    private static void runEdges() {
        CeilingKernel k = Asm.aloneStarted("SET 0 0");
        for (int wrong : new int[] {0, -1, 501, FAR[0], FAR[1]}) {
            Checks.due("run(" + wrong + ")", k.run(wrong), -1);
        }
        Checks.due("cycles", k.state(0), 0);
        Checks.due("run(1)", k.run(1), 0);
        Checks.due("cycles", k.state(0), 1);
        Checks.due("run(500)", k.run(500), 1);
        Checks.due("cycles", k.state(0), 501);
    }

    private static void runCountsEntries() {
        CeilingKernel k = new CeilingKernel();
        k.task(4, 4, 0);
        k.task(5, 5, 0);
        Asm.put(k, 0, 0, "OUT 0");
        Asm.put(k, 1, 0, "OUT 0");
        Checks.due("task 1 is late", k.admit(), 18);
        k.start();
        // Task 0 has 0..2, 4..6, 8..10; task 1 gets 3 and 7, each time the first cycle of a switch.
        Checks.due("run(3)", k.run(3), 2);
        Checks.due("run(2)", k.run(2), 0);
        Checks.due("LOST at 5", k.run(1), 1);
        Checks.due("OUT and DONE at 7", k.run(1), 2);
        Checks.due("LOST at 10, OUT and DONE at 11", k.run(4), 3);
        Checks.due("entries", k.state(3), 8);
        Checks.due("switches", k.state(2), 5);
        Checks.due("the value of the latest LOST", k.entry(2, 3), 10);
    }

    private static void stateAtFirst() {
        CeilingKernel k = Asm.aloneStarted("SET 0 0");
        Checks.due("state(0)", k.state(0), 0);
        Checks.due("state(1)", k.state(1), -1);
        for (int what = 2; what <= 6; what++) {
            Checks.due("state(" + what + ")", k.state(what), 0);
        }
        for (int wrong : new int[] {-1, 7, FAR[0], FAR[1]}) {
            Checks.due("state(" + wrong + ")", k.state(wrong), -1);
        }
    }

    private static void stateInARun() {
        CeilingKernel k = Asm.aloneStarted("SET 0 0");
        k.run(2);
        Checks.due("latest in a switch", k.state(1), 0);
        k.run(1);
        Checks.due("latest: the job that has just ended", k.state(1), 0);
        k.run(1);
        Checks.due("latest: idle", k.state(1), -1);
        Checks.due("cycles", k.state(0), 4);
        Checks.due("switches", k.state(2), 1);
        Checks.due("entries", k.state(3), 1);
        Checks.due("idle", k.state(6), 1);
    }

    private static void jobEdges() {
        CeilingKernel k = Asm.aloneStarted("LOCK 1", "SET 0 0", "UNLOCK");
        Checks.due("no job before the first cycle", k.job(0, 1), -1);
        k.run(1);
        Checks.due("cycles since its release", k.job(0, 1), 1);
        Checks.due("active number", k.job(0, 0), 0);
        Checks.due("instructions done", k.job(0, 2), 0);
        Checks.due("held", k.job(0, 3), 0);
        for (int wrong : new int[] {-1, 4, FAR[0], FAR[1]}) {
            Checks.due("job(0, " + wrong + ")", k.job(0, wrong), -1);
        }
        for (int wrong : new int[] {-1, 1, 5, FAR[0], FAR[1]}) {
            Checks.due("job(" + wrong + ", 0)", k.job(wrong, 0), -1);
            Checks.due("signal(" + wrong + ")", k.signal(wrong), false);
            Checks.due("input(" + (wrong == 1 ? 2 : wrong) + ", 0)", k.input(wrong == 1 ? 2 : wrong, 0), false);
        }
        k.run(3);
        Checks.due("held behind LOCK", k.job(0, 3), 2);
        k.run(2);
        for (int what = 0; what < 4; what++) {
            Checks.due("job(0, " + what + ") behind its end", k.job(0, what), -1);
        }
    }

    private static void worstValues() {
        CeilingKernel k = new CeilingKernel();
        k.task(40, 40, -1);
        k.task(20, 20, 0);
        Asm.put(k, 0, 0, "DIV 0 0");
        Asm.put(k, 1, 0, "SET 0 0");
        Checks.due("admit()", k.admit(), 0);
        Checks.due("worst(1) without a run", k.worst(1), -1);
        k.start();
        Checks.due("worst(1) before a job has ended", k.worst(1), 0);
        k.signal(0);
        k.run(20);
        Checks.due("worst(0): a trap", k.worst(0), 6);
        Checks.due("worst(1) behind task 0", k.worst(1), 9);
        k.run(20);
        Checks.due("a shorter one does not count", k.entry(0, 3), 3);
        Checks.due("worst(1)", k.worst(1), 9);
        for (int wrong : new int[] {-1, 2, 5, FAR[0], FAR[1]}) {
            Checks.due("worst(" + wrong + ")", k.worst(wrong), -1);
        }
    }

    private static void wordEdges() {
        CeilingKernel k = Asm.aloneStarted("SET 1 6", "STORE 1 0", "STORE 1 7");
        k.run(20);
        int[] words = {6, 0, 0, 0, 0, 0, 0, 6};
        for (int i = 0; i < 8; i++) {
            Checks.due("word(0, " + i + ")", k.word(0, i), words[i]);
        }
        for (int wrong : new int[] {-1, 8, FAR[0], FAR[1]}) {
            Checks.due("word(0, " + wrong + ")", k.word(0, wrong), -1);
        }
        for (int wrong : new int[] {-1, 1, 5, FAR[0], FAR[1]}) {
            Checks.due("word(" + wrong + ", 0)", k.word(wrong, 0), -1);
        }
    }

    private static void entryEdges() {
        CeilingKernel k = Asm.aloneStarted("SET 2 -4", "OUT 2");
        Checks.due("no entry yet", k.entry(0, 0), -1);
        k.run(4);
        int[] out = {1, 0, 4, -4};
        int[] done = {2, 0, 4, 4};
        for (int what = 0; what < 4; what++) {
            Checks.due("entry(1, " + what + ")", k.entry(1, what), out[what]);
            Checks.due("entry(0, " + what + ")", k.entry(0, what), done[what]);
            Checks.due("entry(2, " + what + ")", k.entry(2, what), -1);
        }
        for (int wrong : new int[] {-1, 4, FAR[0], FAR[1]}) {
            Checks.due("entry(0, " + wrong + ")", k.entry(0, wrong), -1);
        }
        for (int wrong : new int[] {-1, 31, 32, FAR[0], FAR[1]}) {
            Checks.due("entry(" + wrong + ", 0)", k.entry(wrong, 0), -1);
        }
    }

    private static void latestEntriesAreKept() {
        CeilingKernel k = new CeilingKernel();
        k.task(10, 10, 0);
        Asm.put(k, 0, 0, "SET 0 0");
        k.admit();
        k.start();
        k.run(310);
        Checks.due("31 entries", k.state(3), 31);
        Checks.due("the first of 31", k.entry(30, 2), 3);
        Checks.due("none before it", k.entry(31, 2), -1);
        k.run(10);
        Checks.due("the first of 32", k.entry(31, 2), 3);
        k.run(80);
        Checks.due("40 entries", k.state(3), 40);
        for (int back = 0; back < 32; back++) {
            Checks.due("entry(" + back + ", 2)", k.entry(back, 2), 393 - 10 * back);
        }
        Checks.due("not kept any more", k.entry(32, 2), -1);
        k.halt();
        k.start();
        k.run(20);
        Checks.due("of the new run", k.entry(1, 2), 3);
        Checks.due("none of the run before", k.entry(2, 2), -1);
    }

    private static void longRun() {
        CeilingKernel k = new CeilingKernel();
        k.task(7, 7, 0);
        k.task(50, 50, 3);
        Asm.put(k, 0, 0, "OUT 0");
        Asm.put(k, 1, 0, "LOAD 1 0", "SET 2 1", "ADD 1 2", "STORE 1 0");
        k.admit();
        k.start();
        int entries = 0;
        for (int i = 0; i < 500; i++) {
            entries += k.run(500);
        }
        Checks.due("cycles", k.state(0), 250000);
        Checks.due("entries", k.state(3), entries);
        Checks.due("jobs of task 1", k.word(1, 0), 5000);
        Checks.due("jobs of task 0", (entries - 5000) / 2, 35714);
    }
}
