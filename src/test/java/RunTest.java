/** Promises 12 to 21: start, halt, signal, input, run, state, job, worst, word, entry. */
public final class RunTest {
    private static final int LEAST = Integer.MIN_VALUE;
    private static final int GREATEST = Integer.MAX_VALUE;
    private static final int[] WRONG_TASKS = {LEAST, -2, -1, 2, 3, 5, GREATEST};

    private RunTest() {
    }

    public static void main(String[] args) throws Exception {
        Sentences.test(RunTest.class);
    }

    @Says("Begins a run, of an admitted set or not; false if there is a run or there are no figures. (So with a late "
            + "task, too.)")
    private static void start() {
        CeilingKernel k = Asm.tasks("10 10 0 | SET 0 0");
        Checks.due("before admit()", k.start(), false);
        Checks.due("no run", k.state(0), -1);
        Checks.due("admit()", k.admit(), 0);
        Checks.due("no run", k.state(0), -1);
        Checks.due("an admitted set", k.start(), true);
        Checks.due("a run", k.state(0), 0);
        Checks.due("in a run", k.start(), false);
        k.halt();
        Checks.due("once more", k.start(), true);
        k = Asm.tasks("10 2 0 | SET 0 0");
        Checks.due("admit()", k.admit(), 8);
        Checks.due("a late set", k.start(), true);
        k = Asm.tasks("10 10 0 | END");
        Checks.due("admit()", k.admit(), 2);
        Checks.due("a reason", k.start(), false);
        Checks.due("no task", new CeilingKernel().start(), false);
    }

    @Says("Ends the run; false if there is none.")
    private static void halt() {
        CeilingKernel k = Asm.figured("10 10 0 | OUT 0", "10 10 -1 | SET 0 0");
        Checks.due("without a run", k.halt(), false);
        k.start();
        Checks.due("at once", k.halt(), true);
        Checks.due("once more", k.halt(), false);
        k.start();
        k.run(11);
        Checks.due("behind 11 cycles", k.halt(), true);
        Checks.due("once more", k.halt(), false);
        Checks.due("run(1)", k.run(1), -1);
        for (int n = 0; n < 7; n++) {
            Checks.due("state(" + n + ")", k.state(n), -1);
        }
        Checks.due("job(0, 0)", k.job(0, 0), -1);
        Checks.due("worst(0)", k.worst(0), -1);
        Checks.due("word(0, 0)", k.word(0, 0), -1);
        Checks.due("entry(0, 0)", k.entry(0, 0), -1);
        Checks.due("signal(1)", k.signal(1), false);
        Checks.due("input(0, 0)", k.input(0, 0), false);
    }

    @Says("An event for a sporadic task; false if there is no run, no such task, it is periodic, or 4 of its events "
            + "wait.")
    private static void signal() {
        CeilingKernel k = Asm.figured("10 10 -1 | SET 0 0", "10 10 -1 | SET 0 0");
        Checks.due("no run", k.signal(0), false);
        k.start();
        for (int wrong : WRONG_TASKS) {
            Checks.due("signal(" + wrong + ")", k.signal(wrong), false);
        }
        Checks.due("nothing came of these", k.run(20), 0);
        for (int task = 0; task < 2; task++) {
            for (int i = 1; i <= 4; i++) {
                Checks.due("event " + i + " of task " + task, k.signal(task), true);
            }
            Checks.due("a fifth of task " + task, k.signal(task), false);
        }
        Checks.due("eight jobs", k.run(100), 8);
        k = Asm.started("10 10 0 | SET 0 0", "10 10 -1 | SET 0 0");
        Checks.due("a periodic task", k.signal(0), false);
        Checks.due("a sporadic one", k.signal(1), true);
    }

    @Says("A port becomes a value; false if there is no run or no such port.")
    private static void input() {
        CeilingKernel k = Asm.figured("10 10 0 | IN 1 0; OUT 1; IN 1 1; OUT 1");
        Checks.due("no run", k.input(0, 5), false);
        k.start();
        k.run(10);
        Watch.outs(k, "nothing came of it", 0, 0);
        for (int wrong : new int[] {LEAST, -2, -1, 2, 3, GREATEST}) {
            Checks.due("input(" + wrong + ", 5)", k.input(wrong, 5), false);
        }
        k.run(10);
        Watch.outs(k, "nor of these", 0, 0, 0, 0);
        Checks.due("input(0, 5)", k.input(0, 5), true);
        Checks.due("input(1, 6)", k.input(1, 6), true);
        k.run(10);
        Watch.outs(k, "but of these", 0, 0, 0, 0, 5, 6);
        Checks.due("input(1, -1)", k.input(1, -1), true);
        k.run(10);
        Watch.outs(k, "a port stays", 0, 0, 0, 0, 5, 6, 5, -1);
    }

    @Says("Makes cycles (1 .. 500): how many entries were made in them.")
    private static void run() {
        CeilingKernel k = Asm.figured(Asm.alone("SET 0 0"));
        Checks.due("run(1) without a run", k.run(1), -1);
        k.start();
        for (int wrong : new int[] {LEAST, -500, -1, 0, 501, 502, GREATEST}) {
            Checks.due("run(" + wrong + ")", k.run(wrong), -1);
            Checks.due("cycles", k.state(0), 0);
        }
        Checks.due("run(1)", k.run(1), 0);
        Checks.due("cycles", k.state(0), 1);
        Checks.due("run(500)", k.run(500), 1);
        Checks.due("cycles", k.state(0), 501);
        Checks.due("run(499)", k.run(499), 0);
        Checks.due("cycles", k.state(0), 1000);
        k = Asm.started("4 4 0 | OUT 0", "5 5 0 | OUT 0");
        // Task 0 has 0..2, 4..6, 8..10; task 1 gets 3 and 7, each time the first cycle of a switch.
        Checks.due("run(3)", k.run(3), 2);
        Checks.due("run(2)", k.run(2), 0);
        Checks.due("LOST at 5", k.run(1), 1);
        Checks.due("OUT and DONE at 7", k.run(1), 2);
        Checks.due("LOST at 10, OUT and DONE at 11", k.run(4), 3);
        Checks.due("entries", k.state(3), 8);
        // OUT, DONE and two LOST each three cycles: entries count that are not kept any more.
        k = Asm.started("1 1 0 | OUT 0");
        Checks.due("more than 32", k.run(300), 400);
    }

    @Says("Of the run: 0 cycles made, 1 the task whose job got the latest cycle (-1 if it was idle or there was "
            + "none), 2 switches begun, 3 entries made")
    private static void state() {
        CeilingKernel k = Asm.started("5000 5000 0 | SET 0 0", "5000 5000 0 | SET 0 0");
        Watch.states(k, "at first", 0, -1, 0, 0, 0, 0, 0);
        for (int wrong : new int[] {LEAST, -2, -1, 7, 8, GREATEST}) {
            Checks.due("state(" + wrong + ")", k.state(wrong), -1);
        }
        k.run(2);
        Watch.states(k, "in a switch", 2, 0, 1, 0, 0, 0, 0);
        k.run(1);
        Watch.states(k, "a job has just ended", 3, 0, 1, 1, 0, 0, 0);
        k.run(1);
        Watch.states(k, "the other one", 4, 1, 2, 1, 0, 0, 0);
        k.run(2);
        Watch.states(k, "both have ended", 6, 1, 2, 2, 0, 0, 0);
        k.run(1);
        Watch.states(k, "idle", 7, -1, 2, 2, 0, 0, 1);
        for (int wrong : new int[] {LEAST, -1, 7, GREATEST}) {
            Checks.due("state(" + wrong + ")", k.state(wrong), -1);
        }
    }

    @Says("4 jobs that ended with a value greater than the deadline of their task")
    private static void stateOfOverdueJobs() {
        String[] endings = {"DIV 0 0", "LOAD 0 0; LOAD 0 0"};
        for (String ending : endings) {
            for (int deadline = 5; deadline <= 7; deadline++) {
                CeilingKernel k = Asm.started("20 " + deadline + " 0 | " + ending);
                k.run(40);
                Checks.due("value 6, deadline " + deadline, k.state(4), deadline < 6 ? 2 : 0);
                Checks.due("worst(0)", k.worst(0), 6);
            }
        }
        CeilingKernel k = Asm.started("20 5 0 | LOAD 0 0; LOAD 0 0");
        k.run(5);
        Checks.due("it has not ended", k.state(4), 0);
        k.run(1);
        Checks.due("it has", k.state(4), 1);
    }

    @Says("5 releases lost, 6 idle cycles")
    private static void stateOfLostReleases() {
        CeilingKernel k = Asm.started("2 2 1 | SET 0 0");
        k.run(3);
        Watch.states(k, "before one is lost", 3, 0, 1, 0, 0, 0, 1);
        k.run(1);
        Watch.states(k, "one is lost", 4, 0, 1, 2, 1, 1, 1);
        k.run(1);
        Watch.states(k, "two cycles were idle", 5, -1, 1, 2, 1, 1, 2);
    }

    @Says("Of the job of a task: 0 its active number, 1 cycles made since its release (0 at first), 2 instructions of "
            + "it that were done, 3 resources that it holds, bit r for resource r.")
    private static void job() {
        CeilingKernel k = Asm.started("900 900 500 | LOCK 1; UNLOCK", "900 900 0 | LOCK 1; SET 0 0; UNLOCK");
        Checks.due("no job before the first cycle", k.job(1, 1), -1);
        // Active number, cycles, instructions and resources, behind each cycle.
        int[][] want = {{1, 1, 0, 0}, {1, 2, 0, 0}, {1, 3, 0, 0}, {0, 4, 1, 2}, {0, 5, 2, 2}};
        for (int cycle = 0; cycle < 5; cycle++) {
            k.run(1);
            for (int what = 0; what < 4; what++) {
                Checks.due("job(1, " + what + ") behind cycle " + cycle, k.job(1, what), want[cycle][what]);
                Checks.due("job(0, " + what + "): no job", k.job(0, what), -1);
            }
            for (int wrong : new int[] {LEAST, -2, -1, 4, 5, GREATEST}) {
                Checks.due("job(1, " + wrong + ")", k.job(1, wrong), -1);
            }
        }
        for (int wrong : WRONG_TASKS) {
            Checks.due("job(" + wrong + ", 0)", k.job(wrong, 0), -1);
        }
        k.run(1);
        for (int what = 0; what < 4; what++) {
            Checks.due("job(1, " + what + ") behind its end", k.job(1, what), -1);
        }
    }

    @Says("The greatest value of an entry DONE or TRAP of a task in the run; 0 if there was none. (-1 without a run "
            + "or task.)")
    private static void worst() {
        CeilingKernel k = Asm.figured("40 40 -1 | DIV 0 0", "20 20 0 | OUT 0");
        Checks.due("worst(1) without a run", k.worst(1), -1);
        k.start();
        Checks.due("worst(1) before a job has ended", k.worst(1), 0);
        k.signal(0);
        k.run(20);
        Checks.due("worst(0): a trap", k.worst(0), 6);
        Checks.due("worst(1) behind task 0", k.worst(1), 9);
        k.run(20);
        Checks.due("a shorter one", k.entry(0, 3), 3);
        Checks.due("worst(1): the shorter one does not count", k.worst(1), 9);
        for (int wrong : WRONG_TASKS) {
            Checks.due("worst(" + wrong + ")", k.worst(wrong), -1);
        }
        k = Asm.started("4 4 0 | LOOP 8; SET 1 -5; OUT 1; END");
        k.run(26);
        Checks.due("OUT and LOST do not count", k.worst(0), 0);
        k.run(1);
        Checks.due("DONE does", k.worst(0), 27);
    }

    @Says("Word k of a task in the run. (It may be -1 itself.)")
    private static void word() {
        CeilingKernel k = Asm.figured("90 90 0 | SET 1 6; STORE 1 0; STORE 1 7", "90 90 0 | SET 1 -1; STORE 1 4");
        Checks.due("word(0, 0) without a run", k.word(0, 0), -1);
        k.start();
        k.run(20);
        int[] words = {6, 0, 0, 0, 0, 0, 0, 6};
        for (int i = 0; i < 8; i++) {
            Checks.due("word(0, " + i + ")", k.word(0, i), words[i]);
            Checks.due("word(1, " + i + ")", k.word(1, i), i == 4 ? -1 : 0);
        }
        for (int wrong : new int[] {LEAST, -2, -1, 8, 9, GREATEST}) {
            Checks.due("word(0, " + wrong + ")", k.word(0, wrong), -1);
        }
        for (int wrong : WRONG_TASKS) {
            Checks.due("word(" + wrong + ", 0)", k.word(wrong, 0), -1);
        }
    }

    @Says("Of the entry that was made back entries before the latest one (0 .. 31): 0 kind, 1 task, 2 time, 3 value.")
    private static void entry() {
        CeilingKernel k = Asm.started("10 10 0 | SET 0 0", "10 10 0 | SET 2 -4; OUT 2");
        Checks.due("no entry yet", k.entry(0, 0), -1);
        k.run(7);
        Watch.entry(k, 2, Watch.DONE, 0, 3, 3);
        Watch.entry(k, 1, Watch.OUT, 1, 7, -4);
        Watch.entry(k, 0, Watch.DONE, 1, 7, 7);
        for (int what = 0; what < 4; what++) {
            Checks.due("no entry(3, " + what + ")", k.entry(3, what), -1);
        }
        k.run(493);
        for (int wrong : new int[] {LEAST, -2, -1, 4, 5, GREATEST}) {
            Checks.due("entry(0, " + wrong + ")", k.entry(0, wrong), -1);
            Checks.due("entry(31, " + wrong + ")", k.entry(31, wrong), -1);
        }
        for (int wrong : new int[] {LEAST, -2, -1, 32, 33, GREATEST}) {
            Checks.due("entry(" + wrong + ", 0)", k.entry(wrong, 0), -1);
        }
        // Three entries each ten cycles, 150 in all: the one 31 before the latest is an OUT of the job at 390.
        Watch.entry(k, 31, Watch.OUT, 1, 397, -4);
        Watch.entry(k, 30, Watch.DONE, 1, 397, 7);
        Watch.entry(k, 0, Watch.DONE, 1, 497, 7);
    }
}
