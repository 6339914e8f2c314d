import java.util.List;

/** Many runs of calls, drawn with fixed seeds, on the class and on PlainKernel: all answers are the same. */
public final class ReferenceTest {
    private static final int SEEDS = 1500;
    private static final int MOST_CALLS = 512;

    private final Draw draw;
    private final String name;
    private final CeilingKernel kernel = new CeilingKernel();
    private final PlainKernel plain = new PlainKernel();
    private int calls;
    private int known;

    private ReferenceTest(int seed) {
        draw = new Draw(seed);
        name = "seed " + seed + ": ";
    }

    public static void main(String[] args) {
        int[] seen = new int[5];
        for (int seed = 0; seed < SEEDS; seed++) {
            new ReferenceTest(seed).play(seed, seen);
        }
        // Seeds that leave a kind of entry out would compare nothing of it.
        for (int kind = 1; kind <= 4; kind++) {
            Checks.due("entries of kind " + kind + " were met", seen[kind] > 100, true);
        }
        Checks.finish("ReferenceTest");
    }

    private void same(String call, long got, long want) {
        calls++;
        Checks.due(name + "call " + calls + ", " + call, got, want);
    }

    private void same(String call, boolean got, boolean want) {
        same(call, got ? 1 : 0, want ? 1 : 0);
    }

    private void play(int seed, int[] seen) {
        while (calls < MOST_CALLS - 200) {
            build(seed % 3 == 0);
            askFigures();
            same("start()", kernel.start(), plain.start());
            for (int i = 0; i < 12 && calls < MOST_CALLS - 40; i++) {
                act();
            }
            look(seen);
            if (draw.chance(60)) {
                same("halt()", kernel.halt(), plain.halt());
            }
        }
    }

    // Images

    private void build(boolean wild) {
        int wanted = 1 + draw.number(3);
        for (int i = 0; i < wanted; i++) {
            int period = 1 + draw.number(draw.chance(50) ? 60 : 300);
            int deadline = 1 + draw.number(period + (draw.chance(5) ? 2 : 0));
            int offset = draw.chance(30) ? -1 : draw.number(40);
            int got = kernel.task(period, deadline, offset);
            same("task(" + period + ", " + deadline + ", " + offset + ")", got, plain.task(period, deadline, offset));
            known = Math.max(known, got + 1);
        }
        for (int task = 0; task <= known; task++) {
            if (draw.chance(95)) {
                same("wipe(" + task + ")", kernel.wipe(task), plain.wipe(task));
                write(task, draw.image(wild));
            }
        }
    }

    private void write(int task, List<List<int[]>> image) {
        for (int routine = 0; routine < 3; routine++) {
            for (int[] s : image.get(routine)) {
                if (calls > MOST_CALLS - 150) {
                    return;
                }
                same("code(" + task + ", " + routine + ", " + s[0] + ", " + s[1] + ", " + s[2] + ")",
                        kernel.code(task, routine, s[0], s[1], s[2]), plain.code(task, routine, s[0], s[1], s[2]));
            }
        }
    }

    // Calls

    private void askFigures() {
        same("admit()", kernel.admit(), plain.admit());
        same("place()", kernel.place(), plain.place());
        for (int i = 0; i <= known; i++) {
            same("wcet(" + i + ")", kernel.wcet(i), plain.wcet(i));
            same("blocking(" + i + ")", kernel.blocking(i), plain.blocking(i));
            same("response(" + i + ")", kernel.response(i), plain.response(i));
            int resource = draw.number(4);
            same("section(" + i + ", " + resource + ")", kernel.section(i, resource), plain.section(i, resource));
        }
        for (int resource = 0; resource < 4; resource++) {
            same("ceiling(" + resource + ")", kernel.ceiling(resource), plain.ceiling(resource));
        }
    }

    private void act() {
        for (int i = draw.number(3); i > 0; i--) {
            int task = draw.number(known + 1);
            same("signal(" + task + ")", kernel.signal(task), plain.signal(task));
        }
        if (draw.chance(30)) {
            int port = draw.number(3);
            int value = draw.number(5) - 2;
            same("input(" + port + ", " + value + ")", kernel.input(port, value), plain.input(port, value));
        }
        int cycles = draw.chance(50) ? 1 + draw.number(15) : draw.number(160);
        same("run(" + cycles + ")", kernel.run(cycles), plain.run(cycles));
        for (int i = 0; i < 4; i++) {
            int task = draw.number(known + 1);
            int what = draw.number(5);
            same("job(" + task + ", " + what + ")", kernel.job(task, what), plain.job(task, what));
            int back = draw.number(draw.chance(50) ? 4 : 34);
            same("entry(" + back + ", " + what + ")", kernel.entry(back, what), plain.entry(back, what));
        }
    }

    private void look(int[] seen) {
        for (int what = -1; what <= 7; what++) {
            same("state(" + what + ")", kernel.state(what), plain.state(what));
        }
        for (int i = 0; i <= known && i < 3; i++) {
            same("worst(" + i + ")", kernel.worst(i), plain.worst(i));
            int k = draw.number(3);
            same("word(" + i + ", " + k + ")", kernel.word(i, k), plain.word(i, k));
        }
        for (int back = 0; back < 32; back++) {
            int kind = plain.entry(back, 0);
            seen[kind < 0 ? 0 : kind]++;
        }
    }
}
