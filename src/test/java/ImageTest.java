/** Promises 1 to 4: a new object, task, code, wipe. */
public final class ImageTest {
    private static final int LEAST = Integer.MIN_VALUE;
    private static final int GREATEST = Integer.MAX_VALUE;
    /** By op: the greatest x, the least y, the greatest y, as the document says them. */
    private static final int[][] AS_SAID = {
        {3, LEAST, GREATEST}, {3, 0, 3}, {3, 0, 3}, {3, 0, 7}, {3, 0, 7}, {3, 1, 11}, {0, 1, 8}, {0, 0, 0}, {0, 0, 3},
        {0, 0, 0}, {0, 0, 2}, {3, 0, 1}, {3, 0, 0}, {3, 0, 1}, {3, 0, 1}};

    private ImageTest() {
    }

    public static void main(String[] args) {
        newObject();
        taskNumbers();
        taskEdges();
        taskTakesFiguresAway();
        codeEdges();
        codeRoom();
        codeWithoutTask();
        codeTakesFiguresAway();
        wipeEmptiesAll();
        wipeTakesFiguresAway();
        nothingChangesInRun();
        Checks.finish("ImageTest");
    }

    private static void newObject() {
        CeilingKernel k = new CeilingKernel();
        Checks.due("new: place()", k.place(), -1);
        Checks.due("new: start()", k.start(), false);
        Checks.due("new: halt()", k.halt(), false);
        Checks.due("new: signal(0)", k.signal(0), false);
        Checks.due("new: input(0, 1)", k.input(0, 1), false);
        Checks.due("new: run(1)", k.run(1), -1);
        Checks.due("new: code(0, 0, 0, 0, 0)", k.code(0, 0, 0, 0, 0), false);
        Checks.due("new: wipe(0)", k.wipe(0), false);
        for (int n = 0; n < 4; n++) {
            Checks.due("new: wcet(" + n + ")", k.wcet(n), -1);
            Checks.due("new: section(" + n + ", 0)", k.section(n, 0), -1);
            Checks.due("new: blocking(" + n + ")", k.blocking(n), -1);
            Checks.due("new: response(" + n + ")", k.response(n), -1);
            Checks.due("new: ceiling(" + n + ")", k.ceiling(n), -1);
            Checks.due("new: state(" + n + ")", k.state(n), -1);
            Checks.due("new: job(0, " + n + ")", k.job(0, n), -1);
            Checks.due("new: worst(" + n + ")", k.worst(n), -1);
            Checks.due("new: word(0, " + n + ")", k.word(0, n), -1);
            Checks.due("new: entry(0, " + n + ")", k.entry(0, n), -1);
        }
        Checks.due("new: admit()", k.admit(), 9);
    }

    private static void taskNumbers() {
        CeilingKernel k = new CeilingKernel();
        for (int i = 0; i < 5; i++) {
            Checks.due("refused between: task(0, 0, 0)", k.task(0, 0, 0), -1);
            Checks.due("task " + i, k.task(10, 10, 0), i);
        }
        Checks.due("a sixth task", k.task(10, 10, 0), -1);
        Checks.due("code of task 4", k.code(4, 0, 0, 0, 0), true);
        Checks.due("code of task 5", k.code(5, 0, 0, 0, 0), false);
    }

    private static void taskEdges() {
        int[][] taken = {{1, 1, 0}, {5000, 5000, 5000}, {5000, 1, -1}, {2, 1, 5000}, {7, 7, -1}};
        for (int[] t : taken) {
            Checks.due("task(" + t[0] + ", " + t[1] + ", " + t[2] + ")", new CeilingKernel().task(t[0], t[1], t[2]), 0);
        }
        int[][] refused = {{0, 1, 0}, {0, 0, 0}, {-1, 1, 0}, {5001, 1, 0}, {GREATEST, 1, 0}, {LEAST, 1, 0}, {10, 0, 0},
            {10, -1, 0}, {10, 11, 0}, {10, GREATEST, 0}, {10, LEAST, 0}, {10, 10, -2}, {10, 10, 5001},
            {10, 10, GREATEST}, {10, 10, LEAST}};
        for (int[] t : refused) {
            CeilingKernel k = new CeilingKernel();
            Checks.due("task(" + t[0] + ", " + t[1] + ", " + t[2] + ")", k.task(t[0], t[1], t[2]), -1);
            Checks.due("admit() behind it", k.admit(), 9);
        }
    }

    private static void taskTakesFiguresAway() {
        CeilingKernel k = Asm.alone("SET 0 1");
        Checks.due("admit()", k.admit(), 0);
        Checks.due("task(10, 11, 0)", k.task(10, 11, 0), -1);
        Checks.due("figures behind a refused task", k.wcet(0), 1);
        Checks.due("task(10, 10, 0)", k.task(10, 10, 0), 1);
        Checks.due("figures behind a task", k.wcet(0), -1);
        Checks.due("start() behind a task", k.start(), false);
        Checks.due("the new image is empty", k.admit(), 11);
    }

    private static void codeEdges() {
        for (int op = 0; op <= 14; op++) {
            int xMost = AS_SAID[op][0];
            int yLeast = AS_SAID[op][1];
            int yMost = AS_SAID[op][2];
            code(op, 0, yLeast, true);
            code(op, 0, yMost, true);
            code(op, xMost, yMost, true);
            code(op, -1, yLeast, false);
            code(op, xMost + 1, yLeast, false);
            code(op, GREATEST, yLeast, false);
            code(op, LEAST, yLeast, false);
            if (op != Asm.SET) {
                code(op, 0, yLeast - 1, false);
                code(op, 0, yMost + 1, false);
                code(op, 0, GREATEST, false);
                code(op, 0, LEAST, false);
            }
        }
        for (int op : new int[] {-1, 15, 16, GREATEST, LEAST}) {
            code(op, 0, 0, false);
        }
    }

    private static void code(int op, int x, int y, boolean want) {
        CeilingKernel k = new CeilingKernel();
        k.task(10, 10, 0);
        Checks.due("code(0, 0, " + op + ", " + x + ", " + y + ")", k.code(0, 0, op, x, y), want);
        Checks.due("an instruction is there", k.admit() != 1, want);
    }

    private static void codeRoom() {
        CeilingKernel k = new CeilingKernel();
        k.task(5000, 5000, 0);
        for (int routine = 0; routine < 3; routine++) {
            for (int i = 0; i < 12; i++) {
                Checks.due("instruction " + i, k.code(0, routine, Asm.LOAD, 0, 0), true);
            }
            Checks.due("a thirteenth", k.code(0, routine, Asm.LOAD, 0, 0), false);
        }
        Checks.due("admit()", k.admit(), 0);
        Checks.due("wcet of twelve", k.wcet(0), 24);
        Checks.due("a thirteenth", k.code(0, 0, Asm.LOAD, 0, 0), false);
        Checks.due("figures behind it", k.wcet(0), 24);
    }

    private static void codeWithoutTask() {
        CeilingKernel k = new CeilingKernel();
        k.task(10, 10, 0);
        for (int wrong : new int[] {-1, 1, 5, GREATEST, LEAST}) {
            Checks.due("code of task " + wrong, k.code(wrong, 0, 0, 0, 0), false);
            Checks.due("wipe of task " + wrong, k.wipe(wrong), false);
        }
        for (int wrong : new int[] {-1, 3, GREATEST, LEAST}) {
            Checks.due("code of routine " + wrong, k.code(0, wrong, 0, 0, 0), false);
        }
        Checks.due("still empty", k.admit(), 1);
    }

    private static void codeTakesFiguresAway() {
        CeilingKernel k = Asm.alone("SET 0 1");
        k.admit();
        Checks.due("a wrong op", k.code(0, 0, 15, 0, 0), false);
        Checks.due("figures behind a refused code", k.response(0), 3);
        Asm.put(k, 0, 2, "SET 0 1");
        Checks.due("wcet behind code", k.wcet(0), -1);
        Checks.due("response behind code", k.response(0), -1);
        Checks.due("blocking behind code", k.blocking(0), -1);
        Checks.due("section behind code", k.section(0, 0), -1);
        Checks.due("start() behind code", k.start(), false);
    }

    private static void wipeEmptiesAll() {
        CeilingKernel k = Asm.alone("CALL 1", "CALL 2");
        Asm.put(k, 0, 1, "SET 0 0");
        Asm.put(k, 0, 2, "SET 0 0", "SET 0 0");
        k.task(5000, 5000, 0);
        Asm.put(k, 1, 0, "SET 1 1", "DIV 1 1");
        Checks.due("admit()", k.admit(), 0);
        Checks.due("wipe(0)", k.wipe(0), true);
        Checks.due("routine 0 is empty", k.admit(), 1);
        Asm.put(k, 0, 0, "CALL 1");
        Checks.due("routine 1 is empty", k.admit(), 4);
        Checks.due("wipe(0) again", k.wipe(0), true);
        Asm.put(k, 0, 0, "CALL 2");
        Checks.due("routine 2 is empty", k.admit(), 4);
        Checks.due("wipe(0)", k.wipe(0), true);
        Checks.due("wipe(0) of nothing", k.wipe(0), true);
        Asm.put(k, 0, 0, "OUT 3");
        Checks.due("admit() of the new image", k.admit(), 0);
        Checks.due("wcet(0)", k.wcet(0), 1);
        Checks.due("task 1 is as it was", k.wcet(1), 5);
    }

    private static void wipeTakesFiguresAway() {
        CeilingKernel k = Asm.alone("LOCK 2", "UNLOCK");
        k.admit();
        Checks.due("wipe(1)", k.wipe(1), false);
        Checks.due("figures behind a refused wipe", k.ceiling(2), 0);
        Checks.due("wipe(0)", k.wipe(0), true);
        Checks.due("figures behind a wipe", k.ceiling(2), -1);
    }

    private static void nothingChangesInRun() {
        CeilingKernel k = Asm.aloneStarted("SET 0 1");
        Checks.due("task in a run", k.task(10, 10, 0), -1);
        Checks.due("code in a run", k.code(0, 0, 0, 0, 0), false);
        Checks.due("wipe in a run", k.wipe(0), false);
        Checks.due("figures in a run", k.wcet(0), 1);
        Checks.due("halt()", k.halt(), true);
        Checks.due("figures behind the run", k.wcet(0), 1);
        Checks.due("start() again", k.start(), true);
        k.halt();
        Checks.due("task behind the run", k.task(10, 10, 0), 1);
        Checks.due("code behind the run", k.code(1, 0, 0, 0, 0), true);
        Checks.due("wipe behind the run", k.wipe(0), true);
    }
}
