import java.util.List;

/** Writes instructions by name: "SET 1 7", "JZ 0 2", "LOCK 3", "OUT 2", "END"; "; " stands between two. */
final class Asm {
    static final int SET = 0, ADD = 1, DIV = 2, LOAD = 3, STORE = 4, JZ = 5, LOOP = 6, END = 7, LOCK = 8;
    static final int UNLOCK = 9, CALL = 10, IN = 11, OUT = 12, SEND = 13, RECEIVE = 14;
    private static final List<String> NAMES = List.of("SET", "ADD", "DIV", "LOAD", "STORE", "JZ", "LOOP", "END",
            "LOCK", "UNLOCK", "CALL", "IN", "OUT", "SEND", "RECEIVE");

    private Asm() {
    }

    static boolean namesRegister(int op) {
        return op <= JZ || op >= IN;
    }

    /** Puts lines behind a routine; each must be taken. */
    static void put(CeilingKernel kernel, int task, int routine, String text) {
        for (String line : text.isEmpty() ? new String[0] : text.split("; ")) {
            String[] parts = line.split(" ");
            int op = NAMES.indexOf(parts[0]);
            int first = parts.length > 1 ? Integer.parseInt(parts[1]) : 0;
            int second = parts.length > 2 ? Integer.parseInt(parts[2]) : 0;
            int x = namesRegister(op) ? first : 0;
            int y = namesRegister(op) ? second : first;
            Checks.due("code of " + line, kernel.code(task, routine, op, x, y), true);
        }
    }

    /** The same line so many times. */
    static String times(int count, String line) {
        return (line + "; ").repeat(count).replaceAll("; $", "");
    }

    /** A new kernel with a task for each text: "period deadline offset | routine 0 | routine 1 | routine 2". */
    static CeilingKernel tasks(String... texts) {
        CeilingKernel kernel = new CeilingKernel();
        for (int i = 0; i < texts.length; i++) {
            String[] parts = texts[i].split(" *\\| *");
            String[] times = parts[0].split(" ");
            int number = kernel.task(Integer.parseInt(times[0]), Integer.parseInt(times[1]),
                    Integer.parseInt(times[2]));
            Checks.due("task of " + texts[i], number, i);
            for (int routine = 0; routine + 1 < parts.length; routine++) {
                put(kernel, i, routine, parts[routine + 1]);
            }
        }
        return kernel;
    }

    /** The same, with its figures: no image has a reason against it, but a task may be late. */
    static CeilingKernel figured(String... texts) {
        CeilingKernel kernel = tasks(texts);
        int answer = kernel.admit();
        Checks.due("admit() answered " + answer + ": no reason", answer % 10 == 0 || answer % 10 == 8, true);
        return kernel;
    }

    /** The same, and started. */
    static CeilingKernel started(String... texts) {
        CeilingKernel kernel = figured(texts);
        Checks.due("start()", kernel.start(), true);
        return kernel;
    }

    /** One task, released at 0 and not again before 5000, with these routines. */
    static String alone(String... routines) {
        return "5000 5000 0 | " + String.join(" | ", routines);
    }

    /** That task alone, run for so many cycles. */
    static CeilingKernel ran(int cycles, String... routines) {
        CeilingKernel kernel = started(alone(routines));
        kernel.run(cycles);
        return kernel;
    }
}
