import java.util.ArrayList;
import java.util.List;

/** What must hold in every run, whatever is drawn: sets with fixed seeds, on the class alone. */
public final class BoundTest {
    private static final int SEEDS = 600;
    private static final int LONGEST_PERIOD = 5000;

    private BoundTest() {
    }

    public static void main(String[] args) throws Exception {
        Sentences.test(BoundTest.class);
    }

    /** Images that are sound, each tried on an object of its own. */
    private static List<List<List<int[]>>> soundImages(Draw draw, int count) {
        List<List<List<int[]>>> images = new ArrayList<>();
        while (images.size() < count) {
            List<List<int[]>> image = draw.image(false);
            if (longestRun(image) > 0) {
                images.add(image);
            }
        }
        return images;
    }

    private static int longestRun(List<List<int[]>> image) {
        CeilingKernel k = new CeilingKernel();
        k.task(LONGEST_PERIOD, LONGEST_PERIOD, 0);
        write(k, 0, image);
        k.admit();
        return k.wcet(0);
    }

    private static void write(CeilingKernel k, int task, List<List<int[]>> image) {
        for (int routine = 0; routine < 3; routine++) {
            for (int[] step : image.get(routine)) {
                k.code(task, routine, step[0], step[1], step[2]);
            }
        }
    }

    /** Each task wants up to one in so many cycles; with as many as there are tasks, some sets are admitted. */
    private static CeilingKernel set(Draw draw, int count, int oneIn) {
        CeilingKernel k = new CeilingKernel();
        List<List<List<int[]>>> images = soundImages(draw, count);
        for (int i = 0; i < count; i++) {
            int busy = (longestRun(images.get(i)) + 4) * oneIn;
            int period = Math.min(LONGEST_PERIOD, busy + draw.number(busy));
            k.task(period, period, draw.chance(40) ? -1 : draw.number(period));
            write(k, i, images.get(i));
        }
        return k;
    }

    private static void signalSome(CeilingKernel k, Draw draw, int count) {
        for (int i = 0; i < count; i++) {
            if (draw.chance(50)) {
                k.signal(i);
            }
        }
    }

    @Says("says whether every job of the set is bound to meet its deadline")
    private static void noJobOfAnAdmittedSetIsLate() {
        int admitted = 0;
        int blocked = 0;
        for (int seed = 0; seed < SEEDS; seed++) {
            Draw draw = new Draw(seed);
            int count = 2 + draw.number(4);
            CeilingKernel k = set(draw, count, count);
            if (k.admit() == 0) {
                admitted++;
                blocked += k.blocking(0) > 0 ? 1 : 0;
                runWithoutDelay(k, draw, count, "seed " + seed);
            }
        }
        Checks.due("sets that were admitted: " + admitted, admitted > 200, true);
        Checks.due("sets whose task 0 can be blocked: " + blocked, blocked > 50, true);
    }

    private static void runWithoutDelay(CeilingKernel k, Draw draw, int count, String name) {
        k.start();
        for (int i = 0; i < 40; i++) {
            signalSome(k, draw, count);
            k.input(draw.number(2), draw.number(3) - 1);
            k.run(1 + draw.number(draw.chance(50) ? 20 : 500));
        }
        Checks.due(name + ", jobs behind their deadline", k.state(4), 0);
        Checks.due(name + ", releases lost", k.state(5), 0);
        for (int i = 0; i < count; i++) {
            boolean within = k.worst(i) <= k.response(i);
            Checks.due(name + ", worst " + k.worst(i) + " within response " + k.response(i), within, true);
        }
    }

    @Says("(No more than one such can be, and a resource that a job takes is always free.)")
    private static void noResourceIsHeldTwice() {
        int contended = 0;
        for (int seed = 0; seed < SEEDS; seed++) {
            Draw draw = new Draw(seed);
            int count = 2 + draw.number(3);
            CeilingKernel k = set(draw, count, 2);
            k.admit();
            k.start();
            k.run(1 + draw.number(300));
            signalSome(k, draw, count);
            for (int cycle = 0; cycle < 15; cycle++) {
                k.run(1);
                contended += checkHolders(k, count, "seed " + seed + ", cycle " + cycle) ? 1 : 0;
            }
        }
        Checks.due("cycles in which a job held something beside another: " + contended, contended > 400, true);
    }

    /** No two jobs hold the same, no two that have begun are equals; true if one holds and there are others. */
    private static boolean checkHolders(CeilingKernel k, int count, String name) {
        int jobs = 0;
        int held = 0;
        int actives = 0;
        for (int i = 0; i < count; i++) {
            if (k.job(i, 0) != -1) {
                jobs++;
                Checks.due(name + ", what task " + i + " holds is held twice", held & k.job(i, 3), 0);
                held |= k.job(i, 3);
            }
            if (k.job(i, 2) > 0) {
                int bit = 1 << k.job(i, 0);
                Checks.due(name + ", task " + i + " has begun beside an equal", actives & bit, 0);
                actives |= bit;
            }
        }
        return jobs > 1 && held != 0;
    }
}
