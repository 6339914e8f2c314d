import java.util.List;

/** Writes instructions by name: "SET 1 7", "JZ 0 2", "LOCK 3", "OUT 2", "END". */
final class Asm {
    static final int SET = 0, ADD = 1, DIV = 2, LOAD = 3, STORE = 4, JZ = 5, LOOP = 6, END = 7, LOCK = 8;
    static final int UNLOCK = 9, CALL = 10, IN = 11, OUT = 12, SEND = 13, RECEIVE = 14;
    private static final List<String> NAMES = List.of("SET", "ADD", "DIV", "LOAD", "STORE", "JZ", "LOOP", "END",
            "LOCK", "UNLOCK", "CALL", "IN", "OUT", "SEND", "RECEIVE");

    private Asm() {
    }

    static boolean namesRegister(int op) {
        return op <= JZ || op >= IN;
    }

    /** Puts lines behind a routine; each must be taken. */
    static void put(CeilingKernel kernel, int task, int routine, String... lines) {
        for (String line : lines) {
            String[] parts = line.split(" ");
            int op = NAMES.indexOf(parts[0]);
            int first = parts.length > 1 ? Integer.parseInt(parts[1]) : 0;
            int second = parts.length > 2 ? Integer.parseInt(parts[2]) : 0;
            int x = namesRegister(op) ? first : 0;
            int y = namesRegister(op) ? second : first;
            Checks.due("code of " + line, kernel.code(task, routine, op, x, y), true);
        }
    }

    /** A new kernel with one task whose routine 0 has these lines. */
    static CeilingKernel alone(String... lines) {
        CeilingKernel kernel = new CeilingKernel();
        Checks.due("task(5000, 5000, 0)", kernel.task(5000, 5000, 0), 0);
        put(kernel, 0, 0, lines);
        return kernel;
    }

    /** The same, admitted and started. */
    static CeilingKernel aloneStarted(String... lines) {
        CeilingKernel kernel = alone(lines);
        Checks.due("admit()", kernel.admit(), 0);
        Checks.due("start()", kernel.start(), true);
        return kernel;
    }
}
