import java.util.Arrays;

/** FIGURES, and promises 7 to 11: wcet, section, blocking, response, ceiling. */
public final class FiguresTest {
    /** 1 + 8 * (1 + 8 * (2 + 74 + 1) + 1) + 1 + 5 * 9 + 4 + 2 cycles. */
    private static final String LONG_WAY = "LOOP 8; LOOP 8; CALL 1; END; END; LOOP 5; DIV 0 0; DIV 0 0; END; DIV 0 0; "
            + "LOAD 0 0%s"
            + " | LOOP 8; DIV 0 0; DIV 0 0; END; SET 0 0";

    private FiguresTest() {
    }

    public static void main(String[] args) throws Exception {
        Sentences.test(FiguresTest.class);
    }

    private static void wcet(long want, String... routines) {
        Checks.due("wcet(0) of " + String.join(" | ", routines), Asm.figured(Asm.alone(routines)).wcet(0), want);
    }

    @Says("INSTRUCTIONS op x y, with the cycles that one costs.")
    private static void wcetOfInstructions() {
        wcet(1, "SET 0 1");
        wcet(1, "ADD 0 1");
        wcet(4, "DIV 0 1");
        wcet(2, "LOAD 0 1");
        wcet(2, "STORE 0 1");
        wcet(3, "JZ 0 1; SET 0 0");
        wcet(2, "LOOP 1; END");
        wcet(3, "LOCK 1; UNLOCK");
        wcet(3, "CALL 1", "SET 0 0");
        wcet(1, "IN 0 1");
        wcet(1, "OUT 0");
        wcet(2, "SEND 0 1");
        wcet(2, "RECEIVE 0 1");
    }

    @Says({"The WCET of a task is the greatest number of cycles that a way through routine 0 can cost, calls and all "
            + "rounds of loops included",
        "The WCET of a task."})
    private static void wcetOfLoopsAndCalls() {
        for (int rounds = 1; rounds <= 8; rounds++) {
            wcet(1 + rounds, "LOOP " + rounds + "; END");
        }
        // 1 + 3 * (1 + (1 + 2 * (2 + 1)) + 1)
        wcet(28, "LOOP 3; SET 0 0; LOOP 2; LOAD 0 0; END; END");
        // One loop behind another: the rounds of the first are over.
        wcet(4 + 5, "LOOP 3; END; LOOP 2; SET 0 0; END");
        wcet(6, "LOOP 1; END; DIV 0 0");
        // 1 + 3 * ((1 + 1 * (2 + 1)) + 4 + 1) + 1
        wcet(29, "LOOP 3; LOOP 1; LOAD 0 0; END; DIV 0 0; END; SET 0 0");
        // 1 + 2 * (1 + 3 + 1 + 1): a LOCK in a loop
        wcet(13, "LOOP 2; SET 0 0; LOCK 0; SET 0 0; UNLOCK; END");
        // Routine 2: 4, routine 1: 2 + 4 + 1, routine 0: 2 * (2 + 7) + 2 + 4
        wcet(24, "CALL 1; CALL 1; CALL 2", "CALL 2; SET 0 0", "DIV 0 0");
        wcet(1 + 5 * (2 + 5 + 1), "LOOP 5; CALL 2; END", "DIV 0 0", "LOOP 2; SET 0 0; END");
        // What is not called costs nothing.
        wcet(1, "SET 0 0", "DIV 0 0", "DIV 0 0");
        Checks.due("the wcet of task 1", Asm.figured(Asm.alone("SET 0 0"), Asm.alone("DIV 0 0")).wcet(1), 4);
    }

    @Says("where a JZ may go either way each time that it is met")
    private static void wcetOfJumps() {
        // 1 + 4 * (2 + 4 + 1)
        wcet(29, "LOOP 4; JZ 0 1; DIV 0 0; END");
        wcet(9, "JZ 0 2; JZ 0 2; SET 0 0; DIV 0 0");
        wcet(2 + 11, "JZ 0 11; " + Asm.times(11, "SET 0 0"));
        // r0 is 0 in every run, and still both ways count.
        wcet(2 + 4, "JZ 0 1; DIV 0 0");
    }

    /** Task 1 has three routines of 8 * 8 rounds; the innermost is full of DIVs, the others are full of CALLs. */
    private static CeilingKernel manyRounds(String first, String opening, int calls, String closing) {
        String rounds = "LOOP 8; LOOP 8; %s; END; END";
        return Asm.figured(Asm.alone(first), Asm.alone(opening + String.format(rounds, Asm.times(calls, "CALL 1"))
                + closing,
                String.format(rounds, Asm.times(8, "CALL 2")), String.format(rounds, Asm.times(8, "DIV 0 0"))));
    }

    @Says("FIGURES, of sound images.")
    private static void greatestFigures() {
        CeilingKernel k = manyRounds("SET 0 0", "", 8, "");
        // 2129, then 1091153, then 558671441
        Checks.due("the greatest wcet", k.wcet(1), 558671441);
        Checks.due("no response", k.response(1), -1);
        Checks.due("response(0)", k.response(0), 3);
        k = manyRounds("LOCK 0; UNLOCK", "LOCK 0; ", 6, "; UNLOCK");
        Checks.due("a long section", k.section(1, 0), 419003602);
        Checks.due("its wcet", k.wcet(1), 419003604);
        Checks.due("its blocking", k.blocking(0), 419003604);
        Checks.due("no response", k.response(0), -1);
    }

    @Says({"SECTION of a task for a resource: the greatest number of cycles that a way from behind a LOCK of it up to "
            + "its UNLOCK can cost, that of the UNLOCK included",
        "The section of a task for a resource."})
    private static void sections() {
        CeilingKernel k = Asm.figured(Asm.alone("LOCK 0; SET 0 0; LOCK 1; DIV 0 0; UNLOCK; LOAD 0 0; UNLOCK; DIV 0 0"));
        Checks.due("the outer section", k.section(0, 0), 1 + 2 + 4 + 1 + 2 + 1);
        Checks.due("the inner section", k.section(0, 1), 5);
        k = Asm.figured(Asm.alone("LOCK 0; UNLOCK"));
        Checks.due("the least section", k.section(0, 0), 1);
        k = Asm.figured(Asm.alone("LOCK 2; LOOP 3; JZ 0 1; SET 0 0; END; UNLOCK; LOOP 8; LOCK 3; DIV 0 0; UNLOCK; "
                + "END"));
        Checks.due("a loop in a section", k.section(0, 2), 1 + 3 * 4 + 1);
        Checks.due("a section in a loop", k.section(0, 3), 5);
        k = Asm.figured(Asm.alone("LOCK 3; CALL 1; UNLOCK", "DIV 0 0; LOCK 0; OUT 0; UNLOCK"));
        Checks.due("a call in a section", k.section(0, 3), 2 + 8 + 1);
    }

    @Says("over all LOCKs of the resource in the three routines (called or not)")
    private static void sectionsOfAllLocks() {
        CeilingKernel k = Asm.figured(Asm.alone("LOCK 2; UNLOCK; LOCK 2; DIV 0 0; UNLOCK; LOCK 2; SET 0 0; UNLOCK"));
        Checks.due("the greatest of three", k.section(0, 2), 5);
        for (int greatest = 0; greatest < 3; greatest++) {
            String[] routines = new String[3];
            for (int r = 0; r < 3; r++) {
                routines[r] = r == greatest ? "LOCK 0; LOAD 0 0; UNLOCK" : "LOCK 0; SET 0 0; UNLOCK";
            }
            Checks.due("the greatest is in routine " + greatest, Asm.figured(Asm.alone(routines)).section(0, 0), 3);
        }
        k = Asm.figured(Asm.alone("SET 0 0", "LOCK 1; UNLOCK", "LOCK 2; SET 0 0; UNLOCK"));
        Checks.due("in routine 1, not called", k.section(0, 1), 1);
        Checks.due("in routine 2, not called", k.section(0, 2), 2);
    }

    @Says("0 if there is none. The CEILING")
    private static void noSection() {
        CeilingKernel k = Asm.figured(Asm.alone("LOCK 1; UNLOCK"), Asm.alone("LOCK 2; UNLOCK"));
        int[][] want = {{0, 1, 0, 0}, {0, 0, 1, 0}};
        for (int task = 0; task < 2; task++) {
            for (int r = 0; r < 4; r++) {
                Checks.due("section(" + task + ", " + r + ")", k.section(task, r), want[task][r]);
            }
        }
        k.wipe(0);
        Asm.put(k, 0, 0, "LOCK 3; UNLOCK");
        k.admit();
        Checks.due("section(0, 1): that of before is gone", k.section(0, 1), 0);
    }

    @Says({"The CEILING of a resource is the most urgent task with a LOCK of it in a routine (called or not).",
        "The ceiling of a resource; -1 also if no task has a LOCK of it."})
    private static void ceilings() {
        String plain = "900 900 0 | SET 0 0";
        for (int r = 0; r < 4; r++) {
            String lock = "900 900 0 | SET 0 0; LOCK " + r + "; UNLOCK";
            String notCalled = "900 900 0 | SET 0 0 |  | LOCK " + r + "; UNLOCK";
            Checks.due("nobody's", Asm.figured(plain, plain).ceiling(r), -1);
            Checks.due("task 0's", Asm.figured(lock, lock, plain).ceiling(r), 0);
            Checks.due("task 1's", Asm.figured(plain, notCalled, lock).ceiling(r), 1);
            Checks.due("task 4's", Asm.figured(plain, plain, plain, plain, notCalled).ceiling(r), 4);
            Checks.due("of another resource", Asm.figured(lock).ceiling((r + 1) % 4), -1);
        }
        CeilingKernel k = Asm.figured("900 900 0 | LOCK 2; UNLOCK", "900 900 0 | LOCK 2; UNLOCK");
        k.wipe(0);
        Asm.put(k, 0, 0, "LOCK 3; UNLOCK");
        k.admit();
        Checks.due("ceiling(2) without task 0", k.ceiling(2), 1);
        Checks.due("ceiling(3) with task 0", k.ceiling(3), 0);
    }

    @Says({"BLOCKING of task i: the greatest section of a less urgent task for a resource whose ceiling is i or more "
            + "urgent, and 2 more",
        "The blocking of a task."})
    private static void blockings() {
        // Ceilings: 0 of resource 2, 1 of resource 0, 2 of resource 1.
        CeilingKernel k = Asm.figured("200 200 0 | SET 0 0 |  | LOCK 2; DIV 0 0; DIV 0 0; DIV 0 0; UNLOCK",
                "300 300 0 | LOCK 0; UNLOCK",
                "400 400 0 | LOCK 0; DIV 0 0; UNLOCK; LOCK 2; LOAD 0 0; UNLOCK | LOCK 1; DIV 0 0; DIV 0 0; UNLOCK");
        Checks.due("blocking(0): resource 2 alone", k.blocking(0), 3 + 2);
        Checks.due("blocking(1): resources 0 and 2", k.blocking(1), 5 + 2);
        Checks.due("blocking(2): nobody is less urgent", k.blocking(2), 0);
        String lock = "1000 1000 0 | LOCK 1; UNLOCK";
        k = Asm.figured(lock, lock + "; LOCK 3; DIV 0 0; UNLOCK", "1000 1000 0 | SET 0 0", lock, lock
                + "; LOCK 3; LOAD 0 0; UNLOCK");
        int[] want = {1 + 2, 3 + 2, 3 + 2, 3 + 2, 0};
        for (int i = 0; i < 5; i++) {
            Checks.due("blocking(" + i + ") of five", k.blocking(i), want[i]);
        }
        // Both neighbours of the ceiling: resource 0 is that of task 1.
        String plain = "900 900 0 | SET 0 0";
        String user = "900 900 0 | LOCK 0; UNLOCK";
        k = Asm.figured(plain, user, plain, user);
        int[] around = {0, 1 + 2, 1 + 2, 0};
        for (int i = 0; i < 4; i++) {
            Checks.due("blocking(" + i + ") around a ceiling of 1", k.blocking(i), around[i]);
        }
    }

    @Says("0 if there is no such section. RESPONSE")
    private static void noBlocking() {
        CeilingKernel k = Asm.figured("200 200 0 | LOCK 0; DIV 0 0; UNLOCK", "300 300 0 | LOCK 1; DIV 0 0; UNLOCK");
        Checks.due("no resource in common", k.blocking(0), 0);
        Checks.due("the least urgent task", k.blocking(1), 0);
        Checks.due("one task alone", Asm.figured("200 200 0 | LOCK 0; UNLOCK").blocking(0), 0);
    }

    @Says({"RESPONSE of task i: the least number R from 1 on with R = blocking + wcet + 2 + the sum, over the more "
            + "urgent tasks j, of (R / period of j, rounded up) * (wcet of j + 4)",
        "The response of a task."})
    private static void responses() {
        String urgent = "10 10 -1 | SET 0 0";
        Checks.due("the least there is", Asm.figured("3 3 0 | SET 0 0").response(0), 3);
        // 3 + 2 + 1 * 5 = 10, and the release at 10 does not count yet; 15 would do as well.
        Checks.due("R is the period of task 0", Asm.figured(urgent, "100 100 7 | SET 0 0; LOAD 0 0").response(1), 10);
        Checks.due("R is one less", Asm.figured(urgent, "100 100 7 | LOAD 0 0").response(1), 9);
        // 4 + 2 + 5 = 11, and then 4 + 2 + 2 * 5 = 16.
        Checks.due("R is one more", Asm.figured(urgent, "100 100 7 | DIV 0 0").response(1), 16);
        // 8 + 2 + 2 * 5 = 20, and 9 + 2 + 2 * 5 = 21, then 26.
        Checks.due("R is two periods", Asm.figured(urgent, "100 100 7 | DIV 0 0; DIV 0 0").response(1), 20);
        Checks.due("R is two periods and one", Asm.figured(urgent,
                "100 100 7 | DIV 0 0; DIV 0 0; SET 0 0").response(1), 26);
        CeilingKernel k = Asm.figured("200 200 0 | SET 0 0 | LOCK 2; UNLOCK", "300 300 0 | LOCK 0; UNLOCK",
                "400 400 0 | LOCK 0; DIV 0 0; UNLOCK; LOCK 2; LOAD 0 0; UNLOCK");
        Checks.due("response(0)", k.response(0), 5 + 1 + 2);
        Checks.due("response(1)", k.response(1), 7 + 3 + 2 + 5);
        Checks.due("response(2)", k.response(2), 0 + 12 + 2 + 5 + 7);
        String lock = "1000 1000 0 | LOCK 1; UNLOCK";
        k = Asm.figured(lock, lock + "; LOCK 3; DIV 0 0; UNLOCK", "1000 1000 0 | SET 0 0; SET 0 0", lock, lock
                + "; LOCK 3; LOAD 0 0; UNLOCK");
        // 0 + 8 + 2, and 3 + 4, 10 + 4, 2 + 4, 3 + 4 for the others
        Checks.due("response(4) of five", k.response(4), 10 + 7 + 14 + 6 + 7);
    }

    @Says("if there is none up to the deadline of i, task i is LATE")
    private static void responsesOnTheDeadline() {
        String urgent = "10 10 -1 | SET 0 0";
        Checks.due("3 of 3", Asm.tasks("9 3 0 | SET 0 0").admit(), 0);
        Checks.due("3 of 2", Asm.tasks("9 2 0 | SET 0 0").admit(), 8);
        Checks.due("3 of 1", Asm.tasks("1 1 0 | SET 0 0").admit(), 8);
        Checks.due("10 of 10", Asm.tasks(urgent, "100 10 0 | SET 0 0; LOAD 0 0").admit(), 0);
        Checks.due("10 of 9", Asm.tasks(urgent, "100 9 0 | SET 0 0; LOAD 0 0").admit(), 18);
        Checks.due("16 of 16", Asm.tasks(urgent, "100 16 0 | DIV 0 0").admit(), 0);
        Checks.due("16 of 15", Asm.tasks(urgent, "100 15 0 | DIV 0 0").admit(), 18);
        String longest = String.format(LONG_WAY, "; SET 0 0");
        CeilingKernel k = Asm.figured("5000 5000 0 | " + longest);
        Checks.due("wcet(0)", k.wcet(0), 4998);
        Checks.due("5000 of 5000", k.response(0), 5000);
        Checks.due("5000 of 5000", k.admit(), 0);
        Checks.due("5000 of 4999", Asm.tasks("5000 4999 0 | " + longest).admit(), 8);
        Checks.due("5001 of 5000", Asm.tasks("5000 5000 0 | " + String.format(LONG_WAY, "; LOAD 0 0")).admit(), 8);
        // 5 cycles more for each that goes by: there is no such R at all.
        Checks.due("a period of 5", Asm.tasks("5 5 0 | SET 0 0", "5000 5000 0 | SET 0 0").admit(), 18);
    }

    @Says("Responses are worked out for 0, 1, .. up to the first late task; it and the less urgent ones have none.")
    private static void responsesEndAtTheFirstLateTask() {
        for (int late = 0; late <= 4; late++) {
            String[] texts = new String[4];
            for (int i = 0; i < 4; i++) {
                texts[i] = "100 " + (i == late ? 2 : 100) + " 0 | SET 0 0";
            }
            CeilingKernel k = Asm.figured(texts);
            for (int i = 0; i < 4; i++) {
                Checks.due("response(" + i + "), late is " + late, k.response(i), i < late ? 3 + 5 * i : -1);
                Checks.due("wcet(" + i + ")", k.wcet(i), 1);
                Checks.due("blocking(" + i + ")", k.blocking(i), 0);
            }
        }
    }

    @Says("An admit() that finds at least one task and all images sound leaves all figures")
    private static void figuresOfALateSet() {
        CeilingKernel k = Asm.tasks("9 2 0 | LOCK 1; UNLOCK", "9 9 0 | LOCK 1; SET 0 0; UNLOCK");
        Checks.due("wcet(0) before admit()", k.wcet(0), -1);
        Checks.due("ceiling(1) before admit()", k.ceiling(1), -1);
        Checks.due("admit()", k.admit(), 8);
        Checks.due("wcet(1)", k.wcet(1), 4);
        Checks.due("section(1, 1)", k.section(1, 1), 2);
        Checks.due("section(1, 0)", k.section(1, 0), 0);
        Checks.due("blocking(0)", k.blocking(0), 4);
        Checks.due("ceiling(1)", k.ceiling(1), 0);
        Checks.due("response(0)", k.response(0), -1);
        Checks.due("start()", k.start(), true);
    }

    /** One of task(), code(), wipe() by its number, as it is refused and as it is not. */
    private static boolean change(CeilingKernel k, int which, boolean refused) {
        if (which == 0) {
            return k.task(10, refused ? 11 : 10, 0) >= 0;
        }
        return which == 1 ? k.code(0, 2, refused ? 15 : 0, 0, 0) : k.wipe(refused ? 1 : 0);
    }

    @Says("they are there until a task(), code() or wipe() does what it says")
    private static void figuresUntilAChange() {
        for (int which = 0; which < 3; which++) {
            CeilingKernel k = Asm.figured(Asm.alone("LOCK 2; UNLOCK"));
            k.start();
            k.run(3);
            Checks.due("wcet(0) in a run", k.wcet(0), 3);
            Checks.due("section(0, 2) in a run", k.section(0, 2), 1);
            k.halt();
            Checks.due("one that is refused", change(k, which, true), false);
            Checks.due("wcet(0) behind it", k.wcet(0), 3);
            Checks.due("response(0) behind it", k.response(0), 5);
            Checks.due("start() behind it", k.start(), true);
            k.halt();
            Checks.due("one that is not", change(k, which, false), true);
            Checks.due("wcet(0) behind it", k.wcet(0), -1);
            Checks.due("section(0, 2) behind it", k.section(0, 2), -1);
            Checks.due("section(0, 1) behind it", k.section(0, 1), -1);
            Checks.due("blocking(0) behind it", k.blocking(0), -1);
            Checks.due("response(0) behind it", k.response(0), -1);
            Checks.due("ceiling(2) behind it", k.ceiling(2), -1);
            Checks.due("start() behind it", k.start(), false);
        }
    }

    @Says("(it is refused, a number is not as said, there is no run, no figure, no such thing) answers -1")
    private static void noSuchFigure() {
        for (int count = 1; count <= 5; count++) {
            String[] texts = new String[count];
            Arrays.fill(texts, "900 900 0 | SET 0 0; LOCK 0; UNLOCK; LOCK 3; UNLOCK");
            CeilingKernel k = Asm.figured(texts);
            for (int task : new int[] {Integer.MIN_VALUE, -1, 0, count - 1, count, count + 1, Integer.MAX_VALUE}) {
                boolean there = task >= 0 && task < count;
                Checks.due("wcet(" + task + ") of " + count, k.wcet(task), there ? 7 : -1);
                Checks.due("section(" + task + ", 0) of " + count, k.section(task, 0), there ? 1 : -1);
                Checks.due("blocking(" + task + ") of " + count, k.blocking(task),
                        !there ? -1 : task == count - 1 ? 0 : 3);
                Checks.due("response(" + task + ") of " + count, k.response(task) > 0, there);
            }
            for (int resource : new int[] {Integer.MIN_VALUE, -1, 0, 3, 4, Integer.MAX_VALUE}) {
                boolean there = resource == 0 || resource == 3;
                Checks.due("section(0, " + resource + ")", k.section(0, resource), there ? 1 : -1);
                Checks.due("ceiling(" + resource + ")", k.ceiling(resource), there ? 0 : -1);
            }
        }
    }
}
