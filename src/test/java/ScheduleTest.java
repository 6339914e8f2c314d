/** RUNNING: releases, jobs, switches, ceilings and entries, cycle by cycle. */
public final class ScheduleTest {
    private static final int OUT = Watch.OUT, DONE = Watch.DONE, TRAP = Watch.TRAP, LOST = Watch.LOST;

    private ScheduleTest() {
    }

    public static void main(String[] args) throws Exception {
        Sentences.test(ScheduleTest.class);
    }

    /** Tasks with periods of 100 and these offsets, and a routine 0 each. */
    private static CeilingKernel set(int[] offsets, String... routines) {
        String[] texts = new String[offsets.length];
        for (int i = 0; i < offsets.length; i++) {
            texts[i] = "100 100 " + offsets[i] + " | " + routines[i];
        }
        return Asm.started(texts);
    }

    /** Task 0 is sporadic; task 1 has one job at 0. */
    private static CeilingKernel sporadic(int period) {
        return Asm.started(period + " " + period + " -1 | OUT 0", "1000 1000 0 | SET 0 0");
    }

    private static void signals(CeilingKernel k, int count) {
        for (int i = 0; i < count; i++) {
            Checks.due("signal " + i, k.signal(0), true);
        }
    }

    @Says("In the beginning 0 cycles were made, no task has a job, no event waits, words and ports are 0, mailboxes "
            + "are empty.")
    private static void theBeginning() {
        String task = "100 100 0 | IN 1 0; OUT 1; IN 1 1; OUT 1; RECEIVE 2 0; OUT 0; RECEIVE 2 1; OUT 0";
        CeilingKernel k = Asm.started(task, task, task, task, "100 100 -1 | SET 0 0");
        Watch.states(k, "at first", 0, -1, 0, 0, 0, 0, 0);
        for (int i = 0; i < 5; i++) {
            for (int n = 0; n < 4; n++) {
                Checks.due("job(" + i + ", " + n + ")", k.job(i, n), -1);
            }
            for (int n = 0; n < 8; n++) {
                Checks.due("word(" + i + ", " + n + ")", k.word(i, n), 0);
            }
            Checks.due("worst(" + i + ")", k.worst(i), 0);
        }
        Checks.due("no entry", k.entry(0, 0), -1);
        k.run(14);
        Watch.outs(k, "ports and mailboxes", 0, 0, 0, 0);
        k.run(86);
        Checks.due("no event, no job", k.worst(4), 0);
    }

    @Says("Before each cycle (t is the number of cycles made so far) the RELEASES due at t come, then one job gets "
            + "the cycle.")
    private static void releasesComeBeforeTheCycle() {
        CeilingKernel k = set(new int[] {0, 2}, "SET 0 0", "SET 0 0");
        Checks.due("before the first cycle", k.job(0, 1), -1);
        k.run(1);
        Checks.due("behind the first cycle", k.job(0, 1), 1);
        Checks.due("that job got it", k.state(1), 0);
        k.run(1);
        Checks.due("two cycles made, the release at 2 has not come", k.job(1, 1), -1);
        k.run(1);
        Checks.due("it came before the third", k.job(1, 1), 1);
    }

    @Says("Releases of a periodic task are due at its offset and then every period.")
    private static void offsetsAndPeriods() {
        CeilingKernel k = Asm.started("10 10 4 | OUT 0");
        Watch.timeline(k, "offset 4, period 10", "....000.......000.......0");
        k = Asm.started("3 3 0 | OUT 0");
        Watch.timeline(k, "offset 0, period 3", "000000000");
        Checks.due("releases at 0, 3, 6", k.state(2), 3);
        // A period of 1: the releases at 1 and 2 are lost, the one at 3 gives a job.
        k = Asm.started("1 1 0 | SET 0 0");
        k.run(7);
        Watch.states(k, "period 1", 7, 0, 3, 6, 2, 4, 0);
        Watch.entry(k, 1, LOST, 0, 5, 2);
        Watch.entry(k, 0, DONE, 0, 6, 3);
        k = Asm.started("5000 5000 5000 | OUT 0");
        for (int i = 0; i < 10; i++) {
            Checks.due("nothing before 5000", k.run(500), 0);
        }
        Checks.due("at 5000", k.run(3), 2);
        Watch.entry(k, 0, DONE, 0, 5003, 3);
        for (int i = 0; i < 9; i++) {
            Checks.due("nothing before 10000", k.run(500), 0);
        }
        Checks.due("nothing before 10000", k.run(497), 0);
        Checks.due("at 10000", k.run(3), 2);
        Watch.entry(k, 0, DONE, 0, 10003, 3);
    }

    @Says("An EVENT of a sporadic task gives one release: it is due when the event came (at the number of cycles made "
            + "then)")
    private static void eventsAreDueAtOnce() {
        CeilingKernel k = sporadic(10);
        Watch.timeline(k, "no event, no job", "111....");
        Checks.due("signal(0)", k.signal(0), true);
        Checks.due("no job yet", k.job(0, 0), -1);
        Watch.timeline(k, "at 7, and once", "000.............");
        Watch.entry(k, 0, DONE, 0, 10, 3);
        k = sporadic(10);
        k.signal(0);
        Watch.timeline(k, "at 0", "000111.");
    }

    @Says("but not before one period after the release before it")
    private static void eventsAreOnePeriodApart() {
        for (int period : new int[] {4, 10, 5000}) {
            for (int since : new int[] {period - 1, period, period + 1}) {
                CeilingKernel k = Asm.started(period + " " + period + " -1 | OUT 0");
                k.signal(0);
                k.run(1);
                for (int left = since - 1; left > 0; left -= Math.min(left, 500)) {
                    k.run(Math.min(left, 500));
                }
                Checks.due("cycles", k.state(0), since);
                k.signal(0);
                k.run(500);
                int end = Math.max(period, since) + 3;
                Checks.due("an event at " + since + ", period " + period, k.entry(0, 2), end);
                Checks.due("its value", k.entry(0, 3), 3);
            }
        }
        // A period of 1: an event each cycle may give a release each cycle.
        CeilingKernel k = sporadic(1);
        signals(k, 4);
        k.run(4);
        Checks.due("lost at 1 and 2, a job at 3", k.state(5), 2);
        Checks.due("a job at 3", k.job(0, 1), 1);
    }

    @Says("later events wait for those before them")
    private static void eventsInTheirOrder() {
        CeilingKernel k = sporadic(10);
        k.signal(0);
        Watch.timeline(k, "the first", "000111..");
        signals(k, 2);
        Watch.timeline(k, "the others one period apart", "..000.......000.......");
        k.run(5);
        Checks.due("35 cycles", k.state(0), 35);
        k.signal(0);
        Watch.timeline(k, "long behind the one before", "000..");
        k.signal(0);
        Watch.timeline(k, "a period behind that", ".....000.");
        Watch.entry(k, 0, DONE, 0, 48, 3);
    }

    @Says({"An event WAITS until its release.", "or 4 of its events wait"})
    private static void fourEventsWait() {
        CeilingKernel k = sporadic(10);
        signals(k, 4);
        Checks.due("a fifth", k.signal(0), false);
        k.run(1);
        Checks.due("one is released", k.signal(0), true);
        Checks.due("four wait again", k.signal(0), false);
        k.run(9);
        Checks.due("the second is due at 10, before the next cycle", k.signal(0), false);
        k.run(1);
        Checks.due("now it is released", k.signal(0), true);
        k.run(60);
        // At 0, 10, 20, 30, 40, 50.
        Checks.due("the job at 50", k.entry(0, 2), 53);
        Checks.due("all of them, OUT and DONE each, and task 1", k.state(3), 13);
        signals(k, 4);
        Checks.due("four wait once more", k.signal(0), false);
    }

    @Says("A release gives the task a JOB: registers 0, at place 0 of routine 0 (the words stay).")
    private static void everyJobBeginsAnew() {
        CeilingKernel k = Asm.started(
                "20 20 0 | LOAD 1 7; SET 2 3; ADD 1 2; STORE 1 7; STORE 3 0; STORE 0 1; SET 3 9; SET 0 9");
        k.run(60);
        Checks.due("words stay", k.word(0, 7), 9);
        Checks.due("r3 does not", k.word(0, 0), 0);
        Checks.due("r0 does not", k.word(0, 1), 0);
        // The first job traps deep in a call; the next one goes all the way.
        k = Asm.started("50 50 0 | CALL 1; OUT 1 | LOAD 1 0; SET 2 6; STORE 2 0; CALL 2; SET 3 1 | LOOP 2; DIV 2 1; "
                + "END; OUT 2");
        Checks.due("the first job traps in routine 2", k.run(50), 1);
        Checks.due("kind", k.entry(0, 0), TRAP);
        Checks.due("the next one begins anew", k.run(50), 3);
        Watch.outs(k, "its OUTs", 0, 6);
        int end = 2 + 2 + 2 + 1 + 2 + 2 + 1 + 2 * 5 + 1 + 1 + 1;
        Watch.entry(k, 0, DONE, 0, 50 + end, end);
    }

    @Says("If the job before has not ended, the release is LOST instead: an entry LOST is made, that job goes on")
    private static void lostOneCycleTooEarly() {
        // The job takes 3 cycles: it has ended when the release at 3 comes, not when one comes at 2.
        CeilingKernel k = Asm.started("3 3 0 | SET 0 0");
        k.run(9);
        Watch.states(k, "period 3", 9, 0, 3, 3, 0, 0, 0);
        k = Asm.started("2 2 0 | SET 0 0");
        Checks.due("two cycles", k.run(2), 0);
        Checks.due("the job before", k.job(0, 1), 2);
        Checks.due("LOST and DONE in the third", k.run(1), 2);
        Watch.entry(k, 1, LOST, 0, 2, 2);
        Watch.entry(k, 0, DONE, 0, 3, 3);
        Checks.due("lost", k.state(5), 1);
        // One that waits for its first cycle has not ended either.
        k = Asm.started("5000 5000 0 | LOOP 8; SET 0 0; END", "5 5 0 | SET 0 0");
        k.run(6);
        Watch.entry(k, 0, LOST, 1, 5, 5);
        Checks.due("its job goes on waiting", k.job(1, 1), 6);
    }

    @Says("(and the next release is due as if this one had given a job)")
    private static void theReleaseBehindALostOne() {
        CeilingKernel k = Asm.started("2 2 0 | SET 0 0");
        k.run(3);
        Watch.timeline(k, "the release after it is due as ever", ".000.000");
        Watch.entry(k, 1, LOST, 0, 10, 2);
        Watch.entry(k, 0, DONE, 0, 11, 3);
        Watch.states(k, "behind 11 cycles", 11, 0, 3, 6, 3, 3, 2);
        Checks.due("worst(0)", k.worst(0), 3);
        k = sporadic(2);
        signals(k, 4);
        // Due at 0, 2 (lost), 4, 6 (lost).
        Watch.timeline(k, "events, too", "0001000");
        Watch.entry(k, 2, LOST, 0, 6, 2);
        Watch.entry(k, 1, OUT, 0, 7, 0);
        Watch.entry(k, 0, DONE, 0, 7, 3);
        Checks.due("lost", k.state(5), 2);
        Checks.due("signal at 7", k.signal(0), true);
        Watch.timeline(k, "not before 8", "1000111.");
    }

    @Says("The ACTIVE number of a job is the least of its task's number and the ceilings of the resources that it "
            + "holds.")
    private static void activeNumbers() {
        // Ceilings: 0 is that of resource 3, 1 that of resource 1, and 2 that of resource 2.
        CeilingKernel k = set(new int[] {9, 7, 0}, "LOCK 3; UNLOCK", "LOCK 1; UNLOCK",
                "LOCK 2; LOCK 1; LOCK 3; UNLOCK; UNLOCK; UNLOCK; SET 0 0");
        Watch.job(k, 2, 0, 2, 2, 2, 2, 2, 1, 1, 0, 1);
        Checks.due("it holds 2 and 1", k.job(2, 3), 6);
        // Task 1 came at 7 and waits for resource 1; task 0 came at 9 and need not.
        Watch.timeline(k, "task 0 over ceiling 1", "00000222");
        Watch.timeline(k, "then task 1, then task 2", "111112222.");
        Watch.entry(k, 2, DONE, 0, 14, 5);
        Watch.entry(k, 1, DONE, 1, 22, 15);
        Watch.entry(k, 0, DONE, 2, 26, 26);
        // The other way round: the lesser ceiling stays when the inner one is given back.
        k = set(new int[] {50, 50, 0}, "LOCK 3; UNLOCK", "LOCK 1; UNLOCK", "LOCK 3; LOCK 1; UNLOCK; UNLOCK; SET 0 0");
        Watch.job(k, 2, 0, 2, 2, 2, 0, 0, 0, 0, 2, -1);
    }

    @Says("The job with the least active number gets the cycle; among equals one that got a cycle before.")
    private static void ceilingsKeepOthersOut() {
        CeilingKernel k = set(new int[] {6, 5, 0}, "LOCK 0; UNLOCK", "OUT 0",
                "LOCK 0; LOAD 0 0; LOAD 0 0; UNLOCK; SET 0 0");
        Watch.timeline(k, "the job that holds 0", "22222222");
        Checks.due("its active number", k.job(2, 0), 0);
        Checks.due("what it holds", k.job(2, 3), 1);
        Checks.due("task 0 waits", k.job(0, 1), 2);
        Checks.due("active number of task 0", k.job(0, 0), 0);
        Checks.due("active number of task 1", k.job(1, 0), 1);
        Watch.timeline(k, "up to its UNLOCK", "2");
        Checks.due("its active number then", k.job(2, 0), 2);
        Checks.due("what it holds then", k.job(2, 3), 0);
        Watch.timeline(k, "then by number", "00000111222.");
        Watch.entry(k, 3, DONE, 0, 14, 8);
        Watch.entry(k, 2, OUT, 1, 17, 0);
        Watch.entry(k, 1, DONE, 1, 17, 12);
        Watch.entry(k, 0, DONE, 2, 20, 20);
        Checks.due("switches", k.state(2), 4);
        k.run(79);
        Watch.timeline(k, "the same once more", "22222222200000111222.");
        // The first cycle of LOCK takes nothing yet, the second one does.
        k = set(new int[] {3, 0}, "LOCK 0; UNLOCK", "LOCK 0; UNLOCK");
        Watch.timeline(k, "within LOCK", "111000001111.");
        k = set(new int[] {4, 0}, "LOCK 0; UNLOCK", "LOCK 0; UNLOCK");
        Watch.timeline(k, "behind LOCK", "1111100000.");
    }

    @Says("If no task has a job, the cycle is IDLE.")
    private static void idleCycles() {
        CeilingKernel k = set(new int[] {1, 5}, "SET 0 0", "SET 0 0");
        Watch.timeline(k, "before, between and behind", ".000.111.");
        Watch.states(k, "three were idle", 9, -1, 2, 2, 0, 0, 3);
    }

    @Says("A job that gets a cycle but had not the cycle before (there was none in the run, it was idle, another "
            + "job's, or of a job that has ended) begins a SWITCH")
    private static void switches() {
        CeilingKernel k = Asm.started("3 3 0 | SET 0 0");
        k.run(1);
        Checks.due("there was none", k.state(2), 1);
        k.run(2);
        Checks.due("no other for the same job", k.state(2), 1);
        k.run(3);
        Checks.due("behind its own task's job that has ended", k.state(2), 2);
        Watch.entry(k, 0, DONE, 0, 6, 3);
        k = Asm.started("5 5 0 | SET 0 0");
        Watch.timeline(k, "idle between", "000..000..0");
        Checks.due("behind idle cycles", k.state(2), 3);
        k = set(new int[] {0, 0}, "SET 0 0", "SET 0 0");
        Watch.timeline(k, "behind another job that has ended", "000111.");
        Checks.due("one for each", k.state(2), 2);
        k = set(new int[] {3, 0}, "SET 0 0", "SET 1 1; DIV 1 1; SET 0 0");
        Watch.timeline(k, "to another and back", "1110001111111.");
        Checks.due("three", k.state(2), 3);
    }

    @Says("that cycle and the next one that it gets without having lost the processor between are spent on it. (If it "
            + "loses the processor meanwhile, the next switch has its 2 cycles again.)")
    private static void switchesThatAreCutOff() {
        CeilingKernel k = set(new int[] {1, 0}, "SET 0 0", "SET 1 1");
        Watch.timeline(k, "behind 1 cycle of it", "1000111.");
        Watch.entry(k, 1, DONE, 0, 4, 3);
        Watch.entry(k, 0, DONE, 1, 7, 7);
        Checks.due("switches", k.state(2), 3);
        k = set(new int[] {2, 0}, "SET 0 0", "SET 1 1");
        Watch.timeline(k, "behind both cycles", "11000111.");
        Checks.due("switches", k.state(2), 3);
        // Task 2 has 1 cycle of its switch, then of its second one, and only the third is whole.
        k = set(new int[] {5, 1, 0}, "SET 0 0", "SET 1 1", "SET 1 1");
        Watch.timeline(k, "twice", "21112000222.");
        Watch.entry(k, 0, DONE, 2, 11, 11);
        Checks.due("switches", k.state(2), 5);
        k = set(new int[] {8, 6, 4, 2, 0}, "SET 0 0", "SET 0 0", "SET 0 0", "SET 0 0", "SET 0 0");
        Watch.timeline(k, "five, each over the one before", "44332211000111222333444.");
        Checks.due("switches", k.state(2), 9);
    }

    @Says("Other cycles are spent on the job's instruction, each as many as it costs, all in all, whoever gets cycles "
            + "between; at the end of the last of them it is done.")
    private static void instructionsThatAreCutOff() {
        // Task 1 has 2 cycles of a switch and 4 of DIV; task 0 comes behind each of them in turn.
        for (int offset = 2; offset <= 5; offset++) {
            CeilingKernel k = set(new int[] {offset, 0}, "SET 0 0", "DIV 0 0");
            k.run(10);
            Checks.due("not yet, offset " + offset, k.job(1, 2), 0);
            k.run(1);
            Watch.entry(k, 0, TRAP, 1, 11, 11);
        }
        CeilingKernel k = set(new int[] {6, 0}, "SET 0 0", "SET 1 1; DIV 0 1");
        k.run(11);
        Checks.due("SET is done, DIV is not", k.job(1, 2), 1);
        k.run(1);
        Watch.entry(k, 0, DONE, 1, 12, 12);
    }

    @Says("The job ENDS, in the same cycle, when it is behind the last instruction of routine 0: entry DONE")
    private static void theLastInstruction() {
        String[] last = {"SET 1 1", "LOOP 2; END", "LOCK 0; UNLOCK", "JZ 0 1; DIV 0 0", "OUT 0", "CALL 1"};
        int[] cycles = {1, 3, 3, 2, 1, 2 + 2 + 2};
        for (int i = 0; i < last.length; i++) {
            CeilingKernel k = Asm.ran(2 + cycles[i] - 1, last[i], "CALL 2", "SEND 1 0");
            Checks.due("not yet: " + last[i], k.job(0, 0), 0);
            k.run(1);
            Checks.due("ended: " + last[i], k.job(0, 0), -1);
            Watch.entry(k, 0, DONE, 0, 2 + cycles[i], 2 + cycles[i]);
            Checks.due("it got that cycle", k.state(1), 0);
        }
        // Behind the last of routine 1 or 2 it goes on.
        CeilingKernel k = Asm.ran(2 + 2 + 1, "CALL 1; SET 0 0", "OUT 0");
        Checks.due("behind routine 1", k.job(0, 2), 2);
        k.run(1);
        Watch.entry(k, 0, DONE, 0, 6, 6);
    }

    @Says("or when it traps: entry TRAP, and the resources that it holds are free")
    private static void trapsFreeResources() {
        CeilingKernel k = set(new int[] {5, 0}, "LOCK 0; OUT 0; UNLOCK", "LOCK 0; LOCK 1; DIV 0 0; UNLOCK; UNLOCK");
        Watch.timeline(k, "up to the trap", "1111111111");
        Watch.entry(k, 0, TRAP, 1, 10, 10);
        Checks.due("no job, nothing held", k.job(1, 3), -1);
        Watch.timeline(k, "then task 0", "000000.");
        Watch.entry(k, 0, DONE, 0, 16, 11);
        k.run(84);
        Checks.due("the next job holds nothing", k.job(1, 3), 0);
        Checks.due("and is its task's number again", k.job(1, 0), 1);
    }

    @Says("ENTRIES have a KIND (1 OUT, 2 DONE, 3 TRAP, 4 LOST), a task, a TIME (the number of cycles made, the one in "
            + "which it is made included; for LOST the t of the release)")
    private static void timesOfEntries() {
        CeilingKernel k = Asm.started("3 3 1 | OUT 0; OUT 0");
        k.run(3);
        Checks.due("none before the fourth cycle", k.state(3), 0);
        k.run(2);
        Watch.entry(k, 3, OUT, 0, 4, 0);
        Watch.entry(k, 2, LOST, 0, 4, 3);
        Watch.entry(k, 1, OUT, 0, 5, 0);
        Watch.entry(k, 0, DONE, 0, 5, 4);
    }

    @Says("a VALUE: rx for OUT, else the time less that of the release that gave the job (for LOST: the job that goes "
            + "on)")
    private static void valuesOfEntries() {
        CeilingKernel k = Asm.started("5000 5000 7 | LOOP 2; SET 2 -9; OUT 2; END", "4 4 8 | DIV 0 0");
        // Task 0 is done with its switch at 9, with LOOP at 10, with its OUTs at 12 and 15, with all at 16.
        k.run(21);
        Watch.entry(k, 5, OUT, 0, 12, -9);
        Watch.entry(k, 4, LOST, 1, 12, 4);
        Watch.entry(k, 3, OUT, 0, 15, -9);
        Watch.entry(k, 2, DONE, 0, 16, 9);
        Watch.entry(k, 1, LOST, 1, 16, 8);
        Watch.entry(k, 0, LOST, 1, 20, 12);
        k.run(1);
        Watch.entry(k, 0, TRAP, 1, 22, 14);
    }

    @Says("The latest 32 are kept.")
    private static void thirtyTwoEntriesAreKept() {
        CeilingKernel k = Asm.started("10 10 0 | SET 0 0");
        k.run(310);
        Checks.due("31 entries", k.state(3), 31);
        Checks.due("the first of 31", k.entry(30, 2), 3);
        Checks.due("none before it", k.entry(31, 2), -1);
        k.run(10);
        Checks.due("the first of 32", k.entry(31, 2), 3);
        Checks.due("none before it", k.entry(32, 2), -1);
        k.run(10);
        Checks.due("the second of 33", k.entry(31, 2), 13);
        Checks.due("the first is not kept", k.entry(32, 2), -1);
        k.run(320);
        Checks.due("65 entries", k.state(3), 65);
        for (int back = 0; back < 32; back++) {
            Checks.due("entry(" + back + ", 2)", k.entry(back, 2), 643 - 10 * back);
        }
        Checks.due("not kept", k.entry(32, 2), -1);
    }

    @Says("Two in one cycle: OUT before DONE; LOST of one t by number of the task.")
    private static void entriesOfOneCycle() {
        CeilingKernel k = Asm.ran(3, "OUT 0");
        Watch.entry(k, 1, OUT, 0, 3, 0);
        Watch.entry(k, 0, DONE, 0, 3, 3);
        k = Asm.started("4 4 0 | LOOP 8; DIV 1 1; END", "4 4 0 | SET 0 0", "4 4 0 | SET 0 0", "4 4 0 | SET 0 0",
                "2 2 0 | SET 0 0");
        k.run(4);
        Checks.due("task 4 lost one at 2", k.state(5), 1);
        Checks.due("five are lost at 4", k.run(1), 5);
        for (int i = 0; i < 5; i++) {
            Watch.entry(k, 4 - i, LOST, i, 4, 4);
        }
        // LOST comes with the releases, so before what the cycle itself brings.
        k = Asm.started("2 2 0 | OUT 0");
        k.run(3);
        Watch.entry(k, 2, LOST, 0, 2, 2);
        Watch.entry(k, 1, OUT, 0, 3, 0);
        Watch.entry(k, 0, DONE, 0, 3, 3);
    }
}
