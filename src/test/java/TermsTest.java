/** Terms: how many tasks, routines, instructions, words, resources, ports and mailboxes there are. */
public final class TermsTest {
    private static final int LEAST = Integer.MIN_VALUE;
    private static final int GREATEST = Integer.MAX_VALUE;

    private TermsTest() {
    }

    public static void main(String[] args) throws Exception {
        Sentences.test(TermsTest.class);
    }

    @Says("An object is used for at most 512 calls after it has been made")
    private static void theLastOf512Calls() {
        CeilingKernel k = Asm.started("7 7 0 | OUT 0", "50 50 3 | LOAD 1 0; SET 2 1; ADD 1 2; STORE 1 0");
        // 2 calls of task(), 5 of code(), admit() and start() are behind it, 3 come behind these.
        int entries = 0;
        for (int i = 0; i < 500; i++) {
            entries += k.run(500);
        }
        Checks.due("cycles", k.state(0), 250000);
        Checks.due("entries", k.state(3), entries);
        Checks.due("jobs of task 1 that were done", k.word(1, 0), 5000);
        Checks.due("jobs of task 0 that were done", (entries - 5000) / 2, 35714);
    }

    @Says("TASKS are numbered 0, 1, .. as they were made, at most 5 of them")
    private static void fiveTasksAndNoSixth() {
        CeilingKernel k = new CeilingKernel();
        for (int i = 0; i < 5; i++) {
            Checks.due("task " + i, k.task(100 + i, 100, 0), i);
            Asm.put(k, i, 0, Asm.times(i + 1, "SET 0 0"));
        }
        Checks.due("a sixth task", k.task(100, 100, 0), -1);
        Checks.due("code of task 4", k.code(4, 1, Asm.SET, 0, 0), true);
        Checks.due("code of task 5", k.code(5, 0, Asm.SET, 0, 0), false);
        Checks.due("admit()", k.admit(), 0);
        for (int i = 0; i < 5; i++) {
            Checks.due("wcet(" + i + ")", k.wcet(i), i + 1);
        }
        Checks.due("wcet(5)", k.wcet(5), -1);
    }

    @Says("of two tasks the one with the smaller number is MORE URGENT")
    private static void smallerNumbersAreMoreUrgent() {
        String task = "100 100 0 | SET 0 0";
        CeilingKernel k = Asm.started(task, task, task, task, task);
        Watch.timeline(k, "each behind the one before it", "000111222333444.");
        // The deadline and the period do not count.
        k = Asm.started("5000 5000 1 | SET 0 0", "50 20 0 | SET 0 0");
        Watch.timeline(k, "task 0 over task 1", "1000111.");
    }

    @Says("an OFFSET (-1: it is SPORADIC, else PERIODIC)")
    private static void minusOneAloneIsSporadic() {
        int[] offsets = {-1, 0, 1, 4999, 5000};
        for (int offset : offsets) {
            CeilingKernel k = Asm.started("5000 5000 " + offset + " | OUT 0");
            Checks.due("offset " + offset + " takes events", k.signal(0), offset == -1);
        }
        Checks.due("offset -1: no release without an event", Asm.started("9 9 -1 | OUT 0").run(500), 0);
        Checks.due("offset 0: a release at 0", Asm.started("5000 5000 0 | OUT 0").run(3), 2);
        Checks.due("offset 1: none before", Asm.started("5000 5000 1 | OUT 0").run(3), 0);
        Checks.due("offset 1: a release at 1", Asm.started("5000 5000 1 | OUT 0").run(4), 2);
    }

    @Says("an IMAGE, that is ROUTINES 0, 1, 2 of at most 12 instructions each")
    private static void twelveInstructionsInEachOfThreeRoutines() {
        CeilingKernel k = Asm.tasks("5000 5000 0", "5000 5000 0");
        for (int task = 0; task < 2; task++) {
            for (int routine = 0; routine < 3; routine++) {
                for (int i = 1; i <= 12; i++) {
                    Checks.due("instruction " + i + " of routine " + routine, k.code(task, routine, Asm.LOAD, 0, 0),
                            true);
                }
                Checks.due("a thirteenth in routine " + routine, k.code(task, routine, Asm.DIV, 0, 0), false);
            }
            Checks.due("routine -1", k.code(task, -1, Asm.LOAD, 0, 0), false);
            Checks.due("routine 3", k.code(task, 3, Asm.LOAD, 0, 0), false);
        }
        Checks.due("admit()", k.admit(), 0);
        Checks.due("wcet of twelve", k.wcet(0), 24);
        Checks.due("wcet of twelve", k.wcet(1), 24);
        k.start();
        k.run(26);
        Watch.entry(k, 0, Watch.DONE, 0, 26, 26);
    }

    @Says("which stand at PLACES 0, 1, ..")
    private static void placesFromTheFirstToTheLast() {
        for (int routine = 0; routine < 3; routine++) {
            for (int wrong : new int[] {0, 1, 10, 11}) {
                CeilingKernel k = Asm.tasks("5000 5000 0");
                if (routine > 0) {
                    Asm.put(k, 0, 0, "SET 0 0");
                }
                Asm.put(k, 0, routine, Asm.times(wrong, "SET 0 0"));
                Asm.put(k, 0, routine, "END");
                Asm.put(k, 0, routine, Asm.times(11 - wrong, "SET 0 0"));
                Checks.due("admit()", k.admit(), 2);
                Checks.due("place() of a wrong END", k.place(), 100 * routine + wrong);
            }
        }
    }

    @Says("and WORDS 0 .. 7")
    private static void eightWordsOfEachTask() {
        String first = "SET 1 10; STORE 1 0; SET 1 11; STORE 1 1; SET 1 12; STORE 1 2; SET 1 13; STORE 1 3";
        String second = "SET 1 14; STORE 1 4; SET 1 15; STORE 1 5; SET 1 16; STORE 1 6; SET 1 17; STORE 1 7";
        CeilingKernel k = Asm.started("900 900 0 | CALL 1; CALL 2 | " + first + " | " + second,
                "900 900 0 | SET 1 9; STORE 1 7; LOAD 2 0; OUT 2");
        k.run(200);
        for (int i = 0; i < 8; i++) {
            Checks.due("word(0, " + i + ")", k.word(0, i), 10 + i);
            Checks.due("word(1, " + i + ")", k.word(1, i), i == 7 ? 9 : 0);
        }
        Watch.outs(k, "task 1 loads its own word", 0);
        Checks.due("word(0, -1)", k.word(0, -1), -1);
        Checks.due("word(0, 8)", k.word(0, 8), -1);
    }

    @Says("There are RESOURCES 0 .. 3")
    private static void fourResources() {
        CeilingKernel k = Asm.started(Asm.alone("LOCK 0; LOCK 1; LOCK 2; LOCK 3; UNLOCK; UNLOCK; UNLOCK; UNLOCK"));
        for (int r = 0; r < 4; r++) {
            Checks.due("ceiling(" + r + ")", k.ceiling(r), 0);
        }
        int[] sections = {10, 7, 4, 1};
        for (int r = 0; r < 4; r++) {
            Checks.due("section(0, " + r + ")", k.section(0, r), sections[r]);
        }
        for (int wrong : new int[] {-1, 4}) {
            Checks.due("ceiling(" + wrong + ")", k.ceiling(wrong), -1);
            Checks.due("section(0, " + wrong + ")", k.section(0, wrong), -1);
        }
        Watch.job(k, 0, 3, 0, 0, 0, 1, 1, 3, 3, 7, 7, 15, 7, 3, 1, -1);
    }

    @Says("PORTS 0 and 1")
    private static void twoPorts() {
        CeilingKernel k = Asm.started(Asm.alone("IN 1 0; OUT 1; IN 1 1; OUT 1"));
        Checks.due("input(0, 7)", k.input(0, 7), true);
        Checks.due("input(1, 8)", k.input(1, 8), true);
        Checks.due("input(-1, 9)", k.input(-1, 9), false);
        Checks.due("input(2, 9)", k.input(2, 9), false);
        k.run(10);
        Watch.outs(k, "each port has its own value", 7, 8);
    }

    @Says("MAILBOXES 0 and 1 of at most 3 numbers each")
    private static void twoMailboxesOfThree() {
        // Each is sent 1, 2, 3, 4; r2 is the 1 that is added. Then all that there is comes out again.
        String fill = "SET 1 0; SET 2 1; LOOP 4; ADD 1 2; SEND 1 %d; END; OUT 0; "
                + "LOOP 4; SET 3 9; RECEIVE 3 %d; OUT 3; END";
        for (int mailbox = 0; mailbox < 2; mailbox++) {
            CeilingKernel k = Asm.ran(100, String.format(fill, mailbox, mailbox));
            Watch.outs(k, "the fourth did not go into mailbox " + mailbox, 0, 1, 2, 3, 9);
        }
        CeilingKernel k = Asm.ran(100, "CALL 1; CALL 2; LOOP 4; RECEIVE 3 0; OUT 3; END; LOOP 4; RECEIVE 3 1; OUT 3; "
                + "END",
                "SET 1 7; LOOP 3; SEND 1 0; END; OUT 0; SEND 1 0; OUT 0",
                    "SET 1 8; LOOP 3; SEND 1 1; END; OUT 0; SEND 1 1; OUT 0");
        Watch.outs(k, "each has room for three", 1, 0, 1, 0, 7, 7, 7, 7, 8, 8, 8, 8);
    }

    @Says("Words, registers, ports and what is sent are ints.")
    private static void leastAndGreatestInts() {
        for (int number : new int[] {LEAST, LEAST + 1, -1, 0, 1, GREATEST - 1, GREATEST}) {
            CeilingKernel k = Asm.started(Asm.alone("SET 1 " + number
                    + "; OUT 1; STORE 1 7; LOAD 2 7; OUT 2; SEND 1 1; RECEIVE 3 1; OUT 3; IN 0 1; OUT 0"));
            Checks.due("input(1, " + number + ")", k.input(1, number), true);
            k.run(100);
            Watch.outs(k, "register, word, mailbox, port", number, number, number, number);
            Checks.due("word(0, 7)", k.word(0, 7), number);
        }
    }
}
