/** Promises 1 to 4: a new object, task, code, wipe. */
public final class ImageTest {
    private static final int LEAST = Integer.MIN_VALUE;
    private static final int GREATEST = Integer.MAX_VALUE;

    private ImageTest() {
    }

    public static void main(String[] args) throws Exception {
        Sentences.test(ImageTest.class);
    }

    @Says("`CeilingKernel()`: No task, no run.")
    private static void newObject() {
        CeilingKernel k = new CeilingKernel();
        Checks.due("place()", k.place(), -1);
        Checks.due("start()", k.start(), false);
        Checks.due("halt()", k.halt(), false);
        Checks.due("signal(0)", k.signal(0), false);
        Checks.due("input(0, 1)", k.input(0, 1), false);
        Checks.due("run(1)", k.run(1), -1);
        Checks.due("code(0, 0, 0, 0, 0)", k.code(0, 0, 0, 0, 0), false);
        Checks.due("wipe(0)", k.wipe(0), false);
        for (int n = 0; n < 7; n++) {
            Checks.due("wcet(" + n + ")", k.wcet(n), -1);
            Checks.due("section(" + n + ", 0)", k.section(n, 0), -1);
            Checks.due("blocking(" + n + ")", k.blocking(n), -1);
            Checks.due("response(" + n + ")", k.response(n), -1);
            Checks.due("ceiling(" + n + ")", k.ceiling(n), -1);
            Checks.due("state(" + n + ")", k.state(n), -1);
            Checks.due("job(0, " + n + ")", k.job(0, n), -1);
            Checks.due("worst(" + n + ")", k.worst(n), -1);
            Checks.due("word(0, " + n + ")", k.word(0, n), -1);
            Checks.due("entry(0, " + n + ")", k.entry(0, n), -1);
        }
        Checks.due("admit()", k.admit(), 9);
        Checks.due("the first task", k.task(1, 1, 0), 0);
    }

    @Says("Makes a task with an empty image: its number.")
    private static void taskNumbersAndEmptyImages() {
        CeilingKernel k = new CeilingKernel();
        for (int i = 0; i < 5; i++) {
            Checks.due("one that is refused takes no number", k.task(0, 0, 0), -1);
            Checks.due("task " + i, k.task(10, 10, 0), i);
            Checks.due("its routine 0 is empty", k.admit(), 1 + 10 * i);
            Asm.put(k, i, 0, "CALL 1");
            Checks.due("its routine 1 is empty", k.admit(), 4 + 10 * i);
            k.wipe(i);
            Asm.put(k, i, 0, "CALL 2");
            Checks.due("its routine 2 is empty", k.admit(), 4 + 10 * i);
            k.wipe(i);
            Asm.put(k, i, 0, "SET 0 0");
        }
    }

    private static void task(int period, int deadline, int offset, int want) {
        CeilingKernel k = new CeilingKernel();
        String call = "task(" + period + ", " + deadline + ", " + offset + ")";
        Checks.due(call, k.task(period, deadline, offset), want);
        Checks.due("admit() behind " + call, k.admit(), want == 0 ? 1 : 9);
    }

    @Says("period is not 1 .. 5000")
    private static void periodEdges() {
        task(1, 1, 0, 0);
        task(2, 1, 0, 0);
        task(4999, 1, 0, 0);
        task(5000, 1, 0, 0);
        for (int wrong : new int[] {0, -1, 5001, 5002, LEAST, GREATEST}) {
            task(wrong, 1, 0, -1);
            task(wrong, wrong, 0, -1);
        }
    }

    @Says("deadline not 1 .. period")
    private static void deadlineEdges() {
        for (int period : new int[] {1, 2, 10, 4999, 5000}) {
            task(period, 1, 0, 0);
            task(period, period, 0, 0);
            for (int wrong : new int[] {0, -1, period + 1, period + 2, LEAST, GREATEST}) {
                task(period, wrong, 0, -1);
            }
        }
    }

    @Says("or offset not -1 .. 5000")
    private static void offsetEdges() {
        for (int period : new int[] {1, 5000}) {
            for (int offset : new int[] {-1, 0, 1, 4999, 5000}) {
                task(period, period, offset, 0);
            }
            for (int wrong : new int[] {-2, -3, 5001, 5002, LEAST, GREATEST}) {
                task(period, period, wrong, -1);
            }
        }
    }

    @Says({"Refused if there is a run, five tasks are there", "false if there is a run, no such task or routine",
        "false if there is a run or no such task"})
    private static void refusedInARun() {
        CeilingKernel k = Asm.started(Asm.alone("SET 0 1"));
        Checks.due("task in a run", k.task(10, 10, 0), -1);
        Checks.due("code in a run", k.code(0, 0, 0, 0, 0), false);
        Checks.due("wipe in a run", k.wipe(0), false);
        Checks.due("halt()", k.halt(), true);
        Checks.due("wcet(0) behind the run", k.wcet(0), 1);
        Checks.due("task behind the run", k.task(10, 10, 0), 1);
        Checks.due("code behind the run", k.code(1, 0, 0, 0, 0), true);
        Checks.due("wipe behind the run", k.wipe(0), true);
    }

    @Says("Puts an instruction behind those of a routine")
    private static void codeGoesBehind() {
        CeilingKernel k = Asm.ran(100, "SET 1 1; OUT 1; SET 1 2; OUT 1; CALL 2; CALL 1; OUT 1", "SET 1 4",
                "OUT 2; OUT 1");
        Watch.outs(k, "in the order of the calls", 1, 2, 0, 2, 4);
    }

    @Says("no such task or routine")
    private static void codeOfNoTaskOrRoutine() {
        for (int count = 0; count <= 5; count++) {
            CeilingKernel k = new CeilingKernel();
            for (int i = 0; i < count; i++) {
                k.task(10, 10, 0);
            }
            for (int wrong : new int[] {-1, count, count + 1, LEAST, GREATEST}) {
                Checks.due("code of task " + wrong + " of " + count, k.code(wrong, 0, 0, 0, 0), false);
            }
            for (int task = 0; task < count; task++) {
                for (int wrong : new int[] {-1, 3, 4, LEAST, GREATEST}) {
                    Checks.due("code of routine " + wrong, k.code(task, wrong, 0, 0, 0), false);
                }
            }
            Checks.due("all images are empty", k.admit(), count == 0 ? 9 : 1);
            for (int task = 0; task < count; task++) {
                for (int routine = 0; routine < 3; routine++) {
                    Checks.due("code of routine " + routine, k.code(task, routine, 0, 0, 0), true);
                }
            }
        }
    }

    @Says("12 are there")
    private static void codeOfAThirteenth() {
        CeilingKernel k = Asm.figured(Asm.alone(Asm.times(11, "SET 0 0")));
        Checks.due("the twelfth", k.code(0, 0, Asm.SET, 0, 0), true);
        Checks.due("the thirteenth", k.code(0, 0, Asm.SET, 0, 0), false);
        Checks.due("admit()", k.admit(), 0);
        Checks.due("the thirteenth", k.code(0, 0, Asm.SET, 0, 0), false);
        Checks.due("wcet(0)", k.wcet(0), 12);
        Checks.due("wipe(0)", k.wipe(0), true);
        Asm.put(k, 0, 0, Asm.times(12, "LOAD 0 0"));
        Checks.due("the thirteenth behind a wipe", k.code(0, 0, Asm.SET, 0, 0), false);
    }

    @Says("op is not 0 .. 14")
    private static void opEdges() {
        for (int op : new int[] {-2, -1, 15, 16, LEAST, GREATEST}) {
            InstructionTest.code(op, 0, 0, false);
            InstructionTest.code(op, 0, 1, false);
        }
        InstructionTest.code(0, 0, 0, true);
        InstructionTest.code(14, 0, 0, true);
    }

    @Says("Takes all instructions out of the three routines of a task")
    private static void wipeEmptiesOneTask() {
        CeilingKernel k = Asm.figured(Asm.alone("CALL 1; CALL 2", "SET 0 0", "SET 0 0; SET 0 0"),
                Asm.alone("SET 1 1; DIV 1 1"));
        Checks.due("wipe(0)", k.wipe(0), true);
        Checks.due("routine 0 is empty", k.admit(), 1);
        Asm.put(k, 0, 0, "CALL 1");
        Checks.due("routine 1 is empty", k.admit(), 4);
        Checks.due("wipe(0) again", k.wipe(0), true);
        Asm.put(k, 0, 0, "CALL 2");
        Checks.due("routine 2 is empty", k.admit(), 4);
        Checks.due("wipe(0)", k.wipe(0), true);
        Checks.due("wipe(0) of an empty image", k.wipe(0), true);
        Asm.put(k, 0, 0, "OUT 3");
        Checks.due("admit() of the new image", k.admit(), 0);
        Checks.due("wcet(0)", k.wcet(0), 1);
        Checks.due("task 1 is as it was", k.wcet(1), 5);
    }

    @Says("false if there is a run or no such task.")
    private static void wipeOfNoTask() {
        for (int count = 0; count <= 5; count++) {
            CeilingKernel k = new CeilingKernel();
            for (int i = 0; i < count; i++) {
                k.task(1000, 1000, 0);
                Asm.put(k, i, 0, "SET 0 0");
            }
            Checks.due("admit() of " + count, k.admit(), count == 0 ? 9 : 0);
            for (int wrong : new int[] {-1, count, count + 1, LEAST, GREATEST}) {
                Checks.due("wipe of task " + wrong + " of " + count, k.wipe(wrong), false);
            }
            Checks.due("the figures are there", k.wcet(count - 1), count == 0 ? -1 : 1);
            for (int task = count - 1; task >= 0; task--) {
                Checks.due("wipe of task " + task + " of " + count, k.wipe(task), true);
                Checks.due("admit() behind it", k.admit(), 1 + 10 * task);
            }
        }
    }
}
