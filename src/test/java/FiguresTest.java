/** Promises 7 to 11: wcet, section, blocking, response, ceiling. */
public final class FiguresTest {
    private FiguresTest() {
    }

    public static void main(String[] args) {
        wcetOfInstructions();
        wcetOfLoopsAndJumps();
        wcetOfCalls();
        greatestWcet();
        sections();
        sectionsOfRoutines();
        ceilings();
        blockings();
        blockingNeedsLessUrgentTask();
        blockingAmongFive();
        responses();
        responseOnTheDeadline();
        responsesEndAtFirstLateTask();
        greatestBlocking();
        noSuchFigure();
        Checks.finish("FiguresTest");
    }

    private static void wcet(long want, String... lines) {
        CeilingKernel k = Asm.alone(lines);
        k.admit();
        Checks.due("wcet(0) of " + String.join("; ", lines), k.wcet(0), want);
    }

    private static void wcetOfInstructions() {
        wcet(1, "SET 0 1");
        wcet(1, "ADD 0 1");
        wcet(4, "DIV 0 1");
        wcet(2, "LOAD 0 1");
        wcet(2, "STORE 0 1");
        wcet(3, "JZ 0 1", "SET 0 0");
        wcet(2, "LOOP 1", "END");
        wcet(9, "LOOP 8", "END");
        wcet(3, "LOCK 1", "UNLOCK");
        wcet(1, "IN 0 1");
        wcet(1, "OUT 0");
        wcet(2, "SEND 0 1");
        wcet(2, "RECEIVE 0 1");
    }

    private static void wcetOfLoopsAndJumps() {
        // 1 + 3 * (1 + (1 + 2 * (2 + 1)) + 1)
        wcet(28, "LOOP 3", "SET 0 0", "LOOP 2", "LOAD 0 0", "END", "END");
        // One loop behind another: the rounds of the first are over.
        wcet(4 + 5, "LOOP 3", "END", "LOOP 2", "SET 0 0", "END");
        wcet(6, "LOOP 1", "END", "DIV 0 0");
        // 1 + 3 * ((1 + 1 * (2 + 1)) + 4 + 1) + 1
        wcet(29, "LOOP 3", "LOOP 1", "LOAD 0 0", "END", "DIV 0 0", "END", "SET 0 0");
        // 1 + 4 * (2 + 4 + 1)
        wcet(29, "LOOP 4", "JZ 0 1", "DIV 0 0", "END");
        wcet(9, "JZ 0 2", "JZ 0 2", "SET 0 0", "DIV 0 0");
        // 1 + 2 * (1 + 3 + 1 + 1): a LOCK in a loop
        wcet(13, "LOOP 2", "SET 0 0", "LOCK 0", "SET 0 0", "UNLOCK", "END");
    }

    private static void wcetOfCalls() {
        CeilingKernel k = Asm.alone("CALL 1", "CALL 1", "CALL 2");
        Asm.put(k, 0, 1, "CALL 2", "SET 0 0");
        Asm.put(k, 0, 2, "DIV 0 0");
        k.admit();
        // Routine 2: 4, routine 1: 2 + 4 + 1, routine 0: 2 * (2 + 7) + 2 + 4
        Checks.due("wcet with calls", k.wcet(0), 24);
        k.wipe(0);
        Asm.put(k, 0, 0, "LOOP 5", "CALL 2", "END");
        Asm.put(k, 0, 1, "DIV 0 0");
        Asm.put(k, 0, 2, "LOOP 2", "SET 0 0", "END");
        k.admit();
        Checks.due("wcet with a call in a loop", k.wcet(0), 1 + 5 * (2 + 5 + 1));
    }

    /** Task 1 has three routines of 8 * 8 rounds; the innermost is full of DIVs, the others are full of CALLs. */
    private static CeilingKernel manyRounds(String first, String opening, int calls, String closing) {
        CeilingKernel k = new CeilingKernel();
        k.task(5000, 5000, 0);
        k.task(5000, 5000, 0);
        Asm.put(k, 0, 0, first.split("; "));
        rounds(k, 0, opening, calls, "CALL 1", closing);
        rounds(k, 1, "", 8, "CALL 2", "");
        rounds(k, 2, "", 8, "DIV 0 0", "");
        return k;
    }

    private static void rounds(CeilingKernel k, int routine, String opening, int times, String line, String closing) {
        String text = opening + "LOOP 8; LOOP 8; " + (line + "; ").repeat(times) + "END; END" + closing;
        Asm.put(k, 1, routine, text.split("; "));
    }

    private static void greatestWcet() {
        CeilingKernel k = manyRounds("SET 0 0", "", 8, "");
        // 2129, then 1091153, then 558671441
        Checks.due("admit()", k.admit(), 18);
        Checks.due("the greatest wcet", k.wcet(1), 558671441);
        Checks.due("no response", k.response(1), -1);
        Checks.due("response(0)", k.response(0), 3);
    }

    private static void greatestBlocking() {
        CeilingKernel k = manyRounds("LOCK 0; UNLOCK", "LOCK 0; ", 6, "; UNLOCK");
        Checks.due("admit()", k.admit(), 8);
        Checks.due("a long section", k.section(1, 0), 419003602);
        Checks.due("its wcet", k.wcet(1), 419003604);
        Checks.due("its blocking", k.blocking(0), 419003604);
        Checks.due("no response", k.response(0), -1);
    }

    private static void sections() {
        CeilingKernel k = Asm.alone("LOCK 0", "SET 0 0", "LOCK 1", "DIV 0 0", "UNLOCK", "LOAD 0 0", "UNLOCK");
        k.admit();
        Checks.due("the outer section", k.section(0, 0), 1 + 2 + 4 + 1 + 2 + 1);
        Checks.due("the inner section", k.section(0, 1), 5);
        Checks.due("no section", k.section(0, 2), 0);
        k.wipe(0);
        Asm.put(k, 0, 0, "LOCK 2", "UNLOCK", "LOCK 2", "DIV 0 0", "UNLOCK", "LOCK 2", "SET 0 0", "UNLOCK", "LOCK 0", "UNLOCK");
        k.admit();
        Checks.due("the greatest of three", k.section(0, 2), 5);
        Checks.due("an empty one", k.section(0, 0), 1);
        Checks.due("those of before are gone", k.section(0, 1), 0);
        k.wipe(0);
        Asm.put(k, 0, 0, "LOCK 2", "LOOP 3", "JZ 0 1", "SET 0 0", "END", "UNLOCK", "LOOP 8", "LOCK 3", "DIV 0 0", "UNLOCK", "END");
        k.admit();
        Checks.due("a loop in a section", k.section(0, 2), 1 + 3 * 4 + 1);
        Checks.due("a section in a loop", k.section(0, 3), 5);
    }

    private static void sectionsOfRoutines() {
        CeilingKernel k = Asm.alone("LOCK 3", "CALL 1", "UNLOCK");
        Asm.put(k, 0, 1, "DIV 0 0", "LOCK 0", "OUT 0", "UNLOCK");
        Asm.put(k, 0, 2, "LOCK 0", "SET 0 0", "LOAD 0 0", "LOAD 0 0", "UNLOCK");
        k.admit();
        Checks.due("a call in a section", k.section(0, 3), 2 + 8 + 1);
        Checks.due("a section of a routine that is not called", k.section(0, 0), 6);
        Checks.due("wcet(0)", k.wcet(0), 2 + 2 + 8 + 1);
    }

    /** Task 0 locks 2 (not called), task 1 locks 0, task 2 locks 0, 2, and 1 (not called). */
    private static CeilingKernel three() {
        CeilingKernel k = new CeilingKernel();
        k.task(200, 200, 0);
        k.task(300, 300, 0);
        k.task(400, 400, 0);
        Asm.put(k, 0, 0, "SET 0 0");
        Asm.put(k, 0, 2, "LOCK 2", "DIV 0 0", "DIV 0 0", "DIV 0 0", "UNLOCK");
        Asm.put(k, 1, 0, "LOCK 0", "UNLOCK");
        Asm.put(k, 2, 0, "LOCK 0", "DIV 0 0", "UNLOCK", "LOCK 2", "LOAD 0 0", "UNLOCK");
        Asm.put(k, 2, 1, "LOCK 1", "DIV 0 0", "DIV 0 0", "UNLOCK");
        Checks.due("admit()", k.admit(), 0);
        return k;
    }

    private static void ceilings() {
        CeilingKernel k = three();
        Checks.due("ceiling(0)", k.ceiling(0), 1);
        Checks.due("ceiling(1)", k.ceiling(1), 2);
        Checks.due("ceiling(2)", k.ceiling(2), 0);
        Checks.due("ceiling(3)", k.ceiling(3), -1);
        Checks.due("ceiling(-1)", k.ceiling(-1), -1);
        Checks.due("ceiling(4)", k.ceiling(4), -1);
        k.wipe(0);
        Asm.put(k, 0, 0, "LOCK 3", "UNLOCK");
        k.admit();
        Checks.due("ceiling(2) without task 0", k.ceiling(2), 2);
        Checks.due("ceiling(3) with task 0", k.ceiling(3), 0);
    }

    private static void blockings() {
        CeilingKernel k = three();
        Checks.due("blocking(0): resource 2 alone", k.blocking(0), 3 + 2);
        Checks.due("blocking(1): resources 0 and 2", k.blocking(1), 5 + 2);
        Checks.due("blocking(2): nobody is less urgent", k.blocking(2), 0);
        Checks.due("response(0)", k.response(0), 5 + 1 + 2);
        Checks.due("response(1)", k.response(1), 7 + 3 + 2 + 5);
        Checks.due("response(2)", k.response(2), 0 + 12 + 2 + 5 + 7);
    }

    private static void blockingNeedsLessUrgentTask() {
        CeilingKernel k = new CeilingKernel();
        k.task(200, 200, 0);
        k.task(300, 300, 0);
        Asm.put(k, 0, 0, "LOCK 0", "DIV 0 0", "UNLOCK");
        Asm.put(k, 1, 0, "LOCK 1", "DIV 0 0", "UNLOCK");
        k.admit();
        Checks.due("no resource in common", k.blocking(0), 0);
        Checks.due("the less urgent one", k.blocking(1), 0);
    }

    private static void blockingAmongFive() {
        CeilingKernel k = new CeilingKernel();
        for (int i = 0; i < 5; i++) {
            k.task(1000, 1000, 0);
            Asm.put(k, i, 0, i == 2 ? "SET 0 0" : "LOCK 1", i == 2 ? "SET 0 0" : "UNLOCK");
        }
        Asm.put(k, 1, 0, "LOCK 3", "DIV 0 0", "UNLOCK");
        Asm.put(k, 4, 0, "LOCK 3", "LOAD 0 0", "UNLOCK");
        Checks.due("admit()", k.admit(), 0);
        int[] want = {1 + 2, 3 + 2, 3 + 2, 3 + 2, 0};
        for (int i = 0; i < 5; i++) {
            Checks.due("blocking(" + i + ") of five", k.blocking(i), want[i]);
        }
        // 0 + 8 + 2, and 3 + 4, 10 + 4, 2 + 4, 3 + 4 for the others
        Checks.due("response(4) of five", k.response(4), 10 + 7 + 14 + 6 + 7);
    }

    private static CeilingKernel pair(int deadline, String... lines) {
        CeilingKernel k = new CeilingKernel();
        k.task(10, 10, -1);
        k.task(100, deadline, 7);
        Asm.put(k, 0, 0, "SET 0 0");
        Asm.put(k, 1, 0, lines);
        return k;
    }

    private static void responses() {
        // 3 + 2 + 1 * 5 = 10: the release at 10 does not count yet.
        CeilingKernel k = pair(100, "SET 0 0", "LOAD 0 0");
        k.admit();
        Checks.due("response(0)", k.response(0), 3);
        Checks.due("response(1) of 10", k.response(1), 10);
        // 4 + 2 + 5 = 11, and then 4 + 2 + 2 * 5 = 16.
        k = pair(100, "DIV 0 0");
        k.admit();
        Checks.due("response(1) of 16", k.response(1), 16);
    }

    private static void responseOnTheDeadline() {
        Checks.due("10 of 10", pair(10, "SET 0 0", "LOAD 0 0").admit(), 0);
        Checks.due("10 of 9", pair(9, "SET 0 0", "LOAD 0 0").admit(), 18);
        Checks.due("16 of 16", pair(16, "DIV 0 0").admit(), 0);
        Checks.due("16 of 15", pair(15, "DIV 0 0").admit(), 18);
    }

    private static void responsesEndAtFirstLateTask() {
        CeilingKernel k = new CeilingKernel();
        for (int i = 0; i < 4; i++) {
            k.task(100, i == 1 ? 3 : 100, 0);
            Asm.put(k, i, 0, "SET 0 0");
        }
        Checks.due("admit()", k.admit(), 18);
        Checks.due("response(0)", k.response(0), 3);
        Checks.due("response(1)", k.response(1), -1);
        Checks.due("response(2)", k.response(2), -1);
        Checks.due("response(3)", k.response(3), -1);
        Checks.due("wcet(3)", k.wcet(3), 1);
        Checks.due("blocking(3)", k.blocking(3), 0);
    }

    private static void noSuchFigure() {
        CeilingKernel k = three();
        int[] wrong = {-1, 3, 4, 5, Integer.MAX_VALUE, Integer.MIN_VALUE};
        for (int task : wrong) {
            Checks.due("wcet(" + task + ")", k.wcet(task), -1);
            Checks.due("section(" + task + ", 0)", k.section(task, 0), -1);
            Checks.due("blocking(" + task + ")", k.blocking(task), -1);
            Checks.due("response(" + task + ")", k.response(task), -1);
        }
        int[] resources = {-1, 4, Integer.MAX_VALUE, Integer.MIN_VALUE};
        for (int resource : resources) {
            Checks.due("section(0, " + resource + ")", k.section(0, resource), -1);
            Checks.due("ceiling(" + resource + ")", k.ceiling(resource), -1);
        }
        Checks.due("start()", k.start(), true);
        Checks.due("figures stay in a run: wcet(0)", k.wcet(0), 1);
        Checks.due("figures stay in a run: section(2, 0)", k.section(2, 0), 5);
        Checks.due("figures stay in a run: ceiling(2)", k.ceiling(2), 0);
    }
}
