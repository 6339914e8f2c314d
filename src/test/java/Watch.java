import java.util.ArrayList;
import java.util.List;

/** What a run shows: its entries, and who gets which cycle. */
final class Watch {
    static final int OUT = 1, DONE = 2, TRAP = 3, LOST = 4;

    private Watch() {
    }

    static void entry(CeilingKernel k, int back, int kind, int task, int time, int value) {
        Checks.due("entry(" + back + ", 0)", k.entry(back, 0), kind);
        Checks.due("entry(" + back + ", 1)", k.entry(back, 1), task);
        Checks.due("entry(" + back + ", 2)", k.entry(back, 2), time);
        Checks.due("entry(" + back + ", 3)", k.entry(back, 3), value);
    }

    /** Cycles one by one: a digit is the task that gets it, '.' an idle one. */
    static void timeline(CeilingKernel k, String name, String want) {
        StringBuilder got = new StringBuilder();
        for (int i = 0; i < want.length(); i++) {
            k.run(1);
            got.append(k.state(1) == -1 ? "." : String.valueOf(k.state(1)));
        }
        Checks.same(name, got.toString(), want);
    }

    /** The values of all OUT entries that are kept, the oldest first. */
    static void outs(CeilingKernel k, String name, Integer... want) {
        List<Integer> got = new ArrayList<>();
        for (int back = 31; back >= 0; back--) {
            if (k.entry(back, 0) == OUT) {
                got.add(k.entry(back, 3));
            }
        }
        Checks.same(name, got, List.of(want));
    }

    /** state(0), state(1), .. up to state(6). */
    static void states(CeilingKernel k, String name, Integer... want) {
        List<Integer> got = new ArrayList<>();
        for (int what = 0; what <= 6; what++) {
            got.add(k.state(what));
        }
        Checks.same(name, got, List.of(want));
    }

    /** A number of the job of a task behind each of the next cycles. */
    static void job(CeilingKernel k, int task, int what, int... behindCycle) {
        for (int cycle = 0; cycle < behindCycle.length; cycle++) {
            k.run(1);
            Checks.due("job(" + task + ", " + what + ") behind cycle " + cycle, k.job(task, what), behindCycle[cycle]);
        }
    }
}
