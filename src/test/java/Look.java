import java.util.ArrayList;
import java.util.List;

/** All that an object answers without being changed. */
final class Look {
    private Look() {
    }

    static List<Integer> all(CeilingKernel k) {
        List<Integer> seen = figures(k);
        seen.addAll(run(k));
        return seen;
    }

    static List<Integer> figures(CeilingKernel k) {
        List<Integer> seen = new ArrayList<>();
        seen.add(k.place());
        for (int task = 0; task < 5; task++) {
            seen.add(k.wcet(task));
            seen.add(k.blocking(task));
            seen.add(k.response(task));
            for (int resource = 0; resource < 4; resource++) {
                seen.add(k.section(task, resource));
            }
        }
        for (int resource = 0; resource < 4; resource++) {
            seen.add(k.ceiling(resource));
        }
        return seen;
    }

    static List<Integer> run(CeilingKernel k) {
        List<Integer> seen = new ArrayList<>();
        for (int what = 0; what < 7; what++) {
            seen.add(k.state(what));
        }
        for (int task = 0; task < 5; task++) {
            seen.add(k.worst(task));
            for (int what = 0; what < 4; what++) {
                seen.add(k.job(task, what));
            }
            for (int word = 0; word < 8; word++) {
                seen.add(k.word(task, word));
            }
        }
        for (int back = 0; back < 32 && k.entry(back, 0) != -1; back++) {
            for (int what = 0; what < 4; what++) {
                seen.add(k.entry(back, what));
            }
        }
        return seen;
    }
}
