/** Promises 5 and 6: admit and place, with the reasons of CHECKING. */
public final class AdmitTest {
    private AdmitTest() {
    }

    public static void main(String[] args) {
        emptyImages();
        wrongCloses();
        deepLoops();
        wrongCalls();
        lockedTwice();
        wrongJumps();
        leftOpen();
        firstReasonCounts();
        nothingStaysOpenBehindAReason();
        soundImages();
        laterTasks();
        lateTasks();
        figuresAndPlaceBehindReasons();
        refusedInRun();
        Checks.finish("AdmitTest");
    }

    /** Three routines, each as text with ';' between its lines. */
    private static CeilingKernel image(String... routines) {
        CeilingKernel k = new CeilingKernel();
        k.task(5000, 5000, 0);
        for (int r = 0; r < routines.length; r++) {
            if (!routines[r].isEmpty()) {
                Asm.put(k, 0, r, routines[r].split("; "));
            }
        }
        return k;
    }

    private static void reason(int reason, int place, String... routines) {
        CeilingKernel k = image(routines);
        String name = String.join(" | ", routines);
        Checks.due("admit() of " + name, k.admit(), reason);
        Checks.due("place() of " + name, k.place(), place);
        Checks.due("wcet(0) of " + name, k.wcet(0) >= 0, reason == 0);
        Checks.due("start() of " + name, k.start(), reason == 0);
    }

    private static void sound(String... routines) {
        reason(0, -1, routines);
    }

    private static void emptyImages() {
        reason(1, 0, "");
        reason(1, 0, "", "SET 0 0", "SET 0 0");
        reason(1, 0, "", "END", "LOCK 0");
        sound("SET 0 0", "", "");
    }

    private static void wrongCloses() {
        reason(2, 0, "END");
        reason(2, 0, "UNLOCK");
        reason(2, 1, "LOCK 0; END; UNLOCK");
        reason(2, 1, "LOOP 2; UNLOCK; END");
        reason(2, 2, "LOOP 2; LOCK 1; END; UNLOCK");
        reason(2, 2, "LOOP 2; END; END");
        reason(2, 2, "LOCK 2; UNLOCK; UNLOCK");
        reason(2, 101, "SET 0 0", "SET 0 0; END");
        reason(2, 200, "LOOP 2; END", "", "UNLOCK");
    }

    private static void deepLoops() {
        reason(3, 2, "LOOP 1; LOOP 1; LOOP 1; END; END; END");
        reason(3, 4, "LOOP 1; LOCK 0; LOOP 1; LOCK 1; LOOP 1");
        reason(3, 204, "SET 0 0", "", "LOOP 1; LOOP 1; END; LOOP 1; LOOP 1");
        sound("LOOP 1; LOOP 1; END; LOOP 1; END; END; LOOP 1; LOOP 1; END; END");
        sound("LOOP 1; LOOP 1; CALL 1; END; END", "LOOP 1; LOOP 1; CALL 2; END; END", "LOOP 1; LOOP 1; END; END");
    }

    private static void wrongCalls() {
        reason(4, 0, "CALL 0");
        reason(4, 1, "SET 0 0; CALL 1");
        reason(4, 0, "CALL 2", "SET 0 0");
        reason(4, 100, "SET 0 0", "CALL 0", "SET 0 0");
        reason(4, 100, "SET 0 0", "CALL 1", "SET 0 0");
        reason(4, 100, "SET 0 0", "CALL 2", "");
        reason(4, 201, "SET 0 0", "SET 0 0", "SET 0 0; CALL 1");
        reason(4, 200, "SET 0 0", "SET 0 0", "CALL 2");
        sound("CALL 1; CALL 2", "CALL 2", "SET 0 0");
    }

    private static void lockedTwice() {
        reason(5, 1, "LOCK 1; LOCK 1; UNLOCK; UNLOCK");
        reason(5, 3, "LOCK 1; LOOP 1; LOCK 2; LOCK 1");
        reason(5, 1, "LOCK 3; CALL 1; UNLOCK", "LOCK 3; UNLOCK");
        reason(5, 1, "LOCK 3; CALL 2; UNLOCK", "", "LOCK 0; LOCK 3; UNLOCK; UNLOCK");
        reason(5, 1, "LOCK 3; CALL 1; UNLOCK", "CALL 2", "LOCK 3; UNLOCK");
        reason(5, 101, "SET 0 0", "LOCK 0; CALL 2; UNLOCK", "LOCK 0; UNLOCK");
        // An empty routine is met before a lock, and a CALL that leads back may lock nothing.
        reason(4, 1, "LOCK 3; CALL 2; UNLOCK", "LOCK 3; UNLOCK");
        reason(4, 103, "SET 0 0", "LOCK 1; CALL 2; UNLOCK; CALL 1", "SET 0 0");
        reason(4, 200, "LOCK 1; CALL 2; UNLOCK", "LOCK 1; UNLOCK", "CALL 1");
        sound("LOCK 1; UNLOCK; LOCK 1; UNLOCK");
        sound("LOCK 0; LOCK 1; LOCK 2; LOCK 3; UNLOCK; UNLOCK; UNLOCK; UNLOCK");
        sound("LOCK 3; UNLOCK; CALL 1", "LOCK 3; UNLOCK");
        sound("LOCK 3; CALL 1; UNLOCK", "LOCK 2; UNLOCK", "LOCK 3; UNLOCK");
        sound("LOCK 3; LOCK 2; UNLOCK; CALL 1; UNLOCK", "LOCK 2; UNLOCK");
    }

    private static void wrongJumps() {
        reason(6, 0, "JZ 0 1");
        reason(6, 0, "JZ 0 2; SET 0 0");
        reason(6, 0, "JZ 0 11; SET 0 0");
        reason(6, 0, "JZ 0 1; LOOP 1; END");
        reason(6, 0, "JZ 0 2; LOCK 1; SET 0 0; UNLOCK");
        reason(6, 1, "LOOP 1; JZ 0 1; END");
        reason(6, 1, "LOOP 1; JZ 0 3; SET 0 0; END; SET 0 0");
        reason(6, 1, "LOOP 1; JZ 0 2; END; LOOP 1; END");
        reason(6, 1, "LOCK 1; JZ 0 2; UNLOCK; LOCK 1; UNLOCK");
        reason(6, 102, "SET 0 0", "SET 0 0; SET 0 0; JZ 1 2; SET 0 0");
        // Between it and its target kinds do not count; what does not match is met later.
        reason(2, 2, "JZ 0 2; LOOP 1; UNLOCK");
        sound("JZ 0 1; SET 0 0");
        sound("JZ 3 2; LOOP 1; END");
        sound("LOOP 1; JZ 0 1; SET 0 0; END");
        sound("LOCK 1; JZ 0 3; LOOP 1; SET 0 0; END; UNLOCK");
        sound("JZ 0 11; SET 0 0; SET 0 0; SET 0 0; SET 0 0; SET 0 0; SET 0 0; SET 0 0; SET 0 0; SET 0 0; SET 0 0; SET 0 0");
        sound("JZ 0 2; JZ 0 2; SET 0 0; SET 0 0");
    }

    private static void leftOpen() {
        reason(7, 1, "LOCK 3");
        reason(7, 2, "LOOP 1; LOOP 1");
        reason(7, 3, "LOOP 1; LOCK 1; UNLOCK");
        reason(7, 101, "SET 0 0", "LOCK 0");
        reason(7, 202, "SET 0 0", "SET 0 0", "SET 0 0; LOOP 1");
        reason(7, 12, "LOCK 0; SET 0 0; SET 0 0; SET 0 0; SET 0 0; SET 0 0; SET 0 0; SET 0 0; SET 0 0; SET 0 0; SET 0 0; SET 0 0");
    }

    private static void firstReasonCounts() {
        reason(2, 1, "SET 0 0; END; CALL 0");
        reason(4, 1, "SET 0 0; CALL 0; END");
        reason(7, 1, "LOOP 1", "END", "END");
        reason(6, 100, "SET 0 0", "JZ 0 1", "END");
        // Brackets of one routine are not open in the next.
        reason(2, 100, "CALL 1", "UNLOCK");
    }

    private static void nothingStaysOpenBehindAReason() {
        String[] unsound = {"LOOP 1; LOOP 1", "LOCK 0; LOCK 1", "LOCK 1; LOOP 1; CALL 0", "LOOP 1; LOOP 1; LOCK 1; CALL 1"};
        for (String first : unsound) {
            CeilingKernel k = image(first, "LOCK 1; UNLOCK");
            Checks.due("a reason against " + first, k.admit() != 0, true);
            k.wipe(0);
            Asm.put(k, 0, 0, "LOOP 1", "LOOP 1", "LOCK 1", "CALL 1", "UNLOCK", "END", "END");
            Asm.put(k, 0, 1, "LOCK 0", "UNLOCK");
            Checks.due("a sound image behind " + first, k.admit(), 0);
            k.wipe(0);
            Asm.put(k, 0, 0, "UNLOCK");
            Checks.due("an UNLOCK of nothing behind " + first, k.admit(), 2);
        }
    }

    private static void soundImages() {
        sound("LOOP 8; LOCK 0; UNLOCK; END");
        sound("SET 0 -2147483648; ADD 1 2; DIV 3 3; LOAD 0 7; STORE 0 7; IN 1 1; OUT 3; SEND 1 1; RECEIVE 1 0");
    }

    private static void laterTasks() {
        CeilingKernel k = new CeilingKernel();
        for (int i = 0; i < 5; i++) {
            k.task(5000, 5000, 0);
            Asm.put(k, i, 0, "LOOP 1", "END");
        }
        Checks.due("admit()", k.admit(), 0);
        Asm.put(k, 4, 2, "CALL 0");
        Checks.due("a reason in task 4", k.admit(), 44);
        Checks.due("place()", k.place(), 200);
        Asm.put(k, 2, 1, "SET 0 0", "LOOP 1");
        Checks.due("a reason in task 2 is met before", k.admit(), 27);
        Checks.due("place()", k.place(), 102);
        k.wipe(0);
        Checks.due("a reason in task 0 is met before", k.admit(), 1);
        Checks.due("place()", k.place(), 0);
    }

    private static void lateTasks() {
        CeilingKernel k = new CeilingKernel();
        k.task(10, 3, 0);
        k.task(10, 9, 0);
        k.task(10, 10, 0);
        Asm.put(k, 0, 0, "SET 0 0");
        Asm.put(k, 1, 0, "SET 0 0");
        Asm.put(k, 2, 0, "SET 0 0");
        // 3; 1 + 2 + 5 = 8; 1 + 2 + 5 + 5 = 13.
        Checks.due("task 2 is late", k.admit(), 28);
        Checks.due("place()", k.place(), -1);
        Checks.due("start() with a late task", k.start(), true);
        k.halt();
        Asm.put(k, 1, 0, "DIV 0 0");
        Checks.due("task 1 is the first late one", k.admit(), 18);
        Asm.put(k, 0, 0, "SET 0 0");
        Checks.due("task 0 is the first late one", k.admit(), 8);
        k.wipe(2);
        Checks.due("a reason goes before late tasks", k.admit(), 21);
    }

    private static void figuresAndPlaceBehindReasons() {
        CeilingKernel k = image("LOCK 0; UNLOCK");
        Checks.due("admit()", k.admit(), 0);
        Checks.due("wcet(0)", k.wcet(0), 3);
        k.code(0, 1, Asm.END, 0, 0);
        Checks.due("admit() with a reason", k.admit(), 2);
        Checks.due("no figures", k.wcet(0), -1);
        Checks.due("place()", k.place(), 100);
        k.wipe(0);
        Checks.due("place() stays until the next admit()", k.place(), 100);
        k.code(0, 0, Asm.SET, 0, 0);
        Checks.due("place() stays until the next admit()", k.place(), 100);
        Checks.due("admit()", k.admit(), 0);
        Checks.due("place() of none", k.place(), -1);
        Checks.due("wcet(0)", k.wcet(0), 1);
        Checks.due("admit() once more", k.admit(), 0);
        Checks.due("wcet(0)", k.wcet(0), 1);
        CeilingKernel none = new CeilingKernel();
        Checks.due("admit() without a task", none.admit(), 9);
        Checks.due("place() without a task", none.place(), -1);
        Checks.due("start() without a task", none.start(), false);
        Checks.due("ceiling() without a task", none.ceiling(0), -1);
    }

    private static void refusedInRun() {
        CeilingKernel k = image("LOCK 0; UNLOCK");
        k.admit();
        k.start();
        Checks.due("admit() in a run", k.admit(), -1);
        Checks.due("place() behind it", k.place(), -1);
        Checks.due("figures behind it", k.wcet(0), 3);
        k.halt();
        Checks.due("admit() behind the run", k.admit(), 0);
    }
}
