import java.util.ArrayList;
import java.util.List;
import java.util.Random;

/** Many runs of calls, drawn with fixed seeds, on the class and on PlainKernel: all answers are the same. */
public final class ReferenceTest {
    private static final int SEEDS = 1500;
    private static final int MOST_CALLS = 512;

    private final Random random;
    private final String name;
    private final CeilingKernel kernel = new CeilingKernel();
    private final PlainKernel plain = new PlainKernel();
    private int calls;
    private int known;

    private ReferenceTest(int seed) {
        random = new Random(seed);
        name = "seed " + seed + ": ";
    }

    public static void main(String[] args) {
        int[] seen = new int[5];
        for (int seed = 0; seed < SEEDS; seed++) {
            new ReferenceTest(seed).play(seed, seen);
        }
        // Seeds that leave a kind of entry out would compare nothing of it.
        for (int kind = 1; kind <= 4; kind++) {
            Checks.due("entries of kind " + kind + " were met", seen[kind] > 100, true);
        }
        Checks.finish("ReferenceTest");
    }

    private int number(int below) {
        return random.nextInt(below);
    }

    private boolean chance(int percent) {
        return number(100) < percent;
    }

    private void same(String call, long got, long want) {
        calls++;
        Checks.due(name + "call " + calls + ", " + call, got, want);
    }

    private void same(String call, boolean got, boolean want) {
        same(call, got ? 1 : 0, want ? 1 : 0);
    }

    private void play(int seed, int[] seen) {
        while (calls < MOST_CALLS - 200) {
            build(seed % 3 == 0);
            askFigures();
            same("start()", kernel.start(), plain.start());
            for (int i = 0; i < 12 && calls < MOST_CALLS - 40; i++) {
                act();
            }
            look(seen);
            if (chance(60)) {
                same("halt()", kernel.halt(), plain.halt());
            }
        }
    }

    // Images

    private void build(boolean wild) {
        int wanted = 1 + number(3);
        for (int i = 0; i < wanted; i++) {
            int period = 1 + number(chance(50) ? 60 : 300);
            int deadline = 1 + number(period + (chance(5) ? 2 : 0));
            int offset = chance(30) ? -1 : number(40);
            int got = kernel.task(period, deadline, offset);
            same("task(" + period + ", " + deadline + ", " + offset + ")", got, plain.task(period, deadline, offset));
            known = Math.max(known, got + 1);
        }
        for (int task = 0; task <= known; task++) {
            if (chance(95)) {
                same("wipe(" + task + ")", kernel.wipe(task), plain.wipe(task));
                writeImage(task, wild);
            }
        }
    }

    /** From routine 2 down: a CALL is drawn when it is known what there is to be called. */
    private void writeImage(int task, boolean wild) {
        boolean[] there = new boolean[3];
        for (int routine = 2; routine >= 0; routine--) {
            List<int[]> steps = new ArrayList<>();
            if (wild && chance(15)) {
                junk(steps);
            } else if (routine == 0 ? chance(99) : chance(50)) {
                body(steps, routine, 1 + number(8), 0, new boolean[4]);
                aimCalls(steps, there);
            }
            there[routine] = !steps.isEmpty();
            write(task, routine, steps);
        }
    }

    private void aimCalls(List<int[]> steps, boolean[] there) {
        for (int[] step : steps) {
            if (step[0] == Asm.CALL && !there[step[2]] && chance(95)) {
                step[2] = there[2] ? 2 : 1;
                step[0] = there[step[2]] ? Asm.CALL : Asm.STORE;
            }
        }
    }

    private void write(int task, int routine, List<int[]> steps) {
        for (int[] s : steps) {
            if (calls > MOST_CALLS - 150) {
                return;
            }
            same("code(" + task + ", " + routine + ", " + s[0] + ", " + s[1] + ", " + s[2] + ")",
                    kernel.code(task, routine, s[0], s[1], s[2]), plain.code(task, routine, s[0], s[1], s[2]));
        }
    }

    private void junk(List<int[]> steps) {
        int size = number(8);
        for (int i = 0; i < size; i++) {
            steps.add(new int[] {number(17) - 1, chance(60) ? 0 : number(6) - 1, number(5) - (chance(10) ? 2 : 0)});
        }
    }

    /** Brackets that match, and jumps over whole parts; what it calls may be empty or lock once more. */
    private void body(List<int[]> steps, int routine, int size, int loops, boolean[] held) {
        int end = Math.min(12, steps.size() + size);
        while (steps.size() < end) {
            int room = end - steps.size();
            if (room >= 3 && chance(25) && (loops < 2 || chance(70))) {
                steps.add(new int[] {Asm.LOOP, 0, 1 + number(3)});
                body(steps, routine, number(room - 1), loops + 1, held);
                steps.add(new int[] {Asm.END, 0, 0});
            } else if (room >= 2 && chance(35)) {
                locked(steps, routine, room, loops, held);
            } else if (room >= 3 && chance(15)) {
                int own = steps.size();
                int[] jump = {Asm.JZ, number(4), 1};
                steps.add(jump);
                body(steps, routine, 1 + number(room - 1), loops, held);
                jump[2] = steps.size() - own - 1;
            } else if (routine < 2 && chance(15)) {
                steps.add(new int[] {Asm.CALL, 0, routine + 1 + number(2 - routine)});
            } else {
                steps.add(simple());
            }
        }
    }

    private void locked(List<int[]> steps, int routine, int room, int loops, boolean[] held) {
        int resource = number(4);
        if (held[resource] && !chance(5)) {
            return;
        }
        boolean was = held[resource];
        held[resource] = true;
        steps.add(new int[] {Asm.LOCK, 0, resource});
        body(steps, routine, number(room - 1), loops, held);
        steps.add(new int[] {Asm.UNLOCK, 0, 0});
        held[resource] = was;
    }

    private int[] simple() {
        int[] ops = {Asm.SET, Asm.SET, Asm.ADD, Asm.DIV, Asm.LOAD, Asm.STORE, Asm.IN, Asm.OUT, Asm.SEND, Asm.RECEIVE};
        int op = ops[number(ops.length)];
        int y = switch (op) {
            case Asm.SET -> chance(20) ? random.nextInt() : number(5) - 2;
            case Asm.ADD, Asm.DIV -> number(4);
            case Asm.LOAD, Asm.STORE -> number(3);
            case Asm.OUT -> 0;
            default -> number(2);
        };
        return new int[] {op, number(4), y};
    }

    // Calls

    private void askFigures() {
        same("admit()", kernel.admit(), plain.admit());
        same("place()", kernel.place(), plain.place());
        for (int i = 0; i <= known; i++) {
            same("wcet(" + i + ")", kernel.wcet(i), plain.wcet(i));
            same("blocking(" + i + ")", kernel.blocking(i), plain.blocking(i));
            same("response(" + i + ")", kernel.response(i), plain.response(i));
            int resource = number(4);
            same("section(" + i + ", " + resource + ")", kernel.section(i, resource), plain.section(i, resource));
        }
        for (int resource = 0; resource < 4; resource++) {
            same("ceiling(" + resource + ")", kernel.ceiling(resource), plain.ceiling(resource));
        }
    }

    private void act() {
        for (int i = number(3); i > 0; i--) {
            int task = number(known + 1);
            same("signal(" + task + ")", kernel.signal(task), plain.signal(task));
        }
        if (chance(30)) {
            int port = number(3);
            int value = number(5) - 2;
            same("input(" + port + ", " + value + ")", kernel.input(port, value), plain.input(port, value));
        }
        int cycles = chance(50) ? 1 + number(15) : number(160);
        same("run(" + cycles + ")", kernel.run(cycles), plain.run(cycles));
        for (int i = 0; i < 4; i++) {
            int task = number(known + 1);
            int what = number(5);
            same("job(" + task + ", " + what + ")", kernel.job(task, what), plain.job(task, what));
            int back = number(chance(50) ? 4 : 34);
            same("entry(" + back + ", " + what + ")", kernel.entry(back, what), plain.entry(back, what));
        }
    }

    private void look(int[] seen) {
        for (int what = -1; what <= 7; what++) {
            same("state(" + what + ")", kernel.state(what), plain.state(what));
        }
        for (int i = 0; i <= known && i < 3; i++) {
            same("worst(" + i + ")", kernel.worst(i), plain.worst(i));
            int k = number(3);
            same("word(" + i + ", " + k + ")", kernel.word(i, k), plain.word(i, k));
        }
        for (int back = 0; back < 32; back++) {
            int kind = plain.entry(back, 0);
            seen[kind < 0 ? 0 : kind]++;
        }
    }
}
