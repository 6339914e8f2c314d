import java.util.ArrayDeque;
import java.util.ArrayList;
import java.util.Deque;
import java.util.List;
import java.util.TreeSet;

/**
 * The document once more, told as slowly and plainly as can be, for ReferenceTest: every figure is
 * searched for by its definition and nothing is remembered that can be worked out again.
 */
final class PlainKernel {
    private static final int[] COSTS = {1, 1, 4, 2, 2, 2, 1, 1, 2, 1, 2, 1, 1, 2, 2};

    private record Step(int op, int x, int y) {
        boolean opens() {
            return op == Asm.LOOP || op == Asm.LOCK;
        }

        boolean closes() {
            return op == Asm.END || op == Asm.UNLOCK;
        }
    }

    private record Entry(int kind, int task, int time, int value) {
        int part(int what) {
            return new int[] {kind, task, time, value}[what];
        }
    }

    private static final class Frame {
        final List<Step> steps;
        int at;
        /** Rounds to come of the LOOPs that are open, innermost first. */
        final Deque<Integer> rounds = new ArrayDeque<>();

        Frame(List<Step> steps) {
            this.steps = steps;
        }
    }

    private static final class Job {
        final int release;
        final int[] registers = new int[4];
        final Deque<Frame> frames = new ArrayDeque<>();
        final TreeSet<Integer> held = new TreeSet<>();
        int cyclesGot;
        int spent;
        int switching;
        int done;

        Job(int release) {
            this.release = release;
        }
    }

    private static final class Task {
        int period;
        int deadline;
        int offset;
        final List<List<Step>> image = List.of(new ArrayList<>(), new ArrayList<>(), new ArrayList<>());
        // of the run
        final int[] words = new int[8];
        final List<Integer> events = new ArrayList<>();
        final List<Integer> releases = new ArrayList<>();
        Job job;
        int worst;
    }

    private final List<Task> tasks = new ArrayList<>();
    private boolean running;
    private boolean figures;
    private int place = -1;
    private final int[] ports = new int[2];
    private final List<Deque<Integer>> mailboxes = List.of(new ArrayDeque<>(), new ArrayDeque<>());
    private final List<Entry> entries = new ArrayList<>();
    private int cycles;
    private Job previous;
    private int latest;
    private int switches;
    private int overdue;
    private int lost;
    private int idle;

    private boolean isTask(int task) {
        return task >= 0 && task < tasks.size();
    }

    // Promises 2 to 4.

    int task(int period, int deadline, int offset) {
        if (running || tasks.size() == 5 || period < 1 || period > 5000 || deadline < 1 || deadline > period
                || offset < -1 || offset > 5000) {
            return -1;
        }
        Task task = new Task();
        task.period = period;
        task.deadline = deadline;
        task.offset = offset;
        tasks.add(task);
        figures = false;
        return tasks.size() - 1;
    }

    boolean code(int task, int routine, int op, int x, int y) {
        if (running || !isTask(task) || routine < 0 || routine > 2 || op < 0 || op > 14) {
            return false;
        }
        boolean xAsSaid = Asm.namesRegister(op) ? x >= 0 && x <= 3 : x == 0;
        boolean yAsSaid = switch (op) {
            case Asm.SET -> true;
            case Asm.ADD, Asm.DIV, Asm.LOCK -> y >= 0 && y <= 3;
            case Asm.LOAD, Asm.STORE -> y >= 0 && y <= 7;
            case Asm.JZ -> y >= 1 && y <= 11;
            case Asm.LOOP -> y >= 1 && y <= 8;
            case Asm.CALL -> y >= 0 && y <= 2;
            case Asm.IN, Asm.SEND, Asm.RECEIVE -> y == 0 || y == 1;
            default -> y == 0;
        };
        List<Step> steps = tasks.get(task).image.get(routine);
        if (!xAsSaid || !yAsSaid || steps.size() == 12) {
            return false;
        }
        steps.add(new Step(op, x, y));
        figures = false;
        return true;
    }

    boolean wipe(int task) {
        if (running || !isTask(task)) {
            return false;
        }
        tasks.get(task).image.forEach(List::clear);
        figures = false;
        return true;
    }

    // Promises 5 and 6.

    int admit() {
        if (running) {
            return -1;
        }
        figures = false;
        place = -1;
        for (Task task : tasks) {
            int reason = reason(task);
            if (reason != 0) {
                return reason + 10 * tasks.indexOf(task);
            }
        }
        if (tasks.isEmpty()) {
            return 9;
        }
        figures = true;
        for (int i = 0; i < tasks.size(); i++) {
            if (response(i) == -1) {
                return 8 + 10 * i;
            }
        }
        return 0;
    }

    int place() {
        return place;
    }

    private int reason(Task task) {
        for (int r = 0; r < 3; r++) {
            int size = task.image.get(r).size();
            for (int p = 0; p <= size; p++) {
                int reason = reasonAt(task, r, p);
                if (reason != 0) {
                    place = 100 * r + p;
                    return reason;
                }
            }
        }
        return 0;
    }

    private int reasonAt(Task task, int r, int p) {
        List<Step> steps = task.image.get(r);
        List<Step> open = openBefore(steps, p);
        if (p == steps.size()) {
            return r == 0 && p == 0 ? 1 : open.isEmpty() ? 0 : 7;
        }
        Step step = steps.get(p);
        if (step.closes()) {
            int wanted = step.op() == Asm.END ? Asm.LOOP : Asm.LOCK;
            return open.isEmpty() || open.get(open.size() - 1).op() != wanted ? 2 : 0;
        }
        if (step.op() == Asm.LOOP && open.stream().filter(s -> s.op() == Asm.LOOP).count() >= 2) {
            return 3;
        }
        if (step.op() == Asm.CALL && (step.y() <= r || task.image.get(step.y()).isEmpty())) {
            return 4;
        }
        for (Step lock : open) {
            boolean again = lock.op() == Asm.LOCK && (step.op() == Asm.LOCK && step.y() == lock.y()
                    || step.op() == Asm.CALL && mayLock(task, step.y(), lock.y()));
            if (again) {
                return 5;
            }
        }
        return step.op() == Asm.JZ && !isJumpSound(steps, p) ? 6 : 0;
    }

    private static List<Step> openBefore(List<Step> steps, int p) {
        List<Step> open = new ArrayList<>();
        for (Step step : steps.subList(0, p)) {
            if (step.opens()) {
                open.add(step);
            } else if (step.closes()) {
                open.remove(open.size() - 1);
            }
        }
        return open;
    }

    private static boolean mayLock(Task task, int r, int resource) {
        return task.image.get(r).stream().anyMatch(s -> s.op() == Asm.LOCK && s.y() == resource
                || s.op() == Asm.CALL && s.y() > r && mayLock(task, s.y(), resource));
    }

    private static boolean isJumpSound(List<Step> steps, int p) {
        int target = p + steps.get(p).y() + 1;
        if (target > steps.size()) {
            return false;
        }
        for (int upTo = p + 1; upTo <= target; upTo++) {
            List<Step> between = steps.subList(p + 1, upTo);
            long opened = between.stream().filter(Step::opens).count();
            long closed = between.stream().filter(Step::closes).count();
            if (closed > opened || upTo == target && closed != opened) {
                return false;
            }
        }
        return true;
    }

    // Promises 7 to 11.

    int wcet(int task) {
        return figures && isTask(task) ? (int) wcet(tasks.get(task)) : -1;
    }

    private static long wcet(Task task) {
        return longest(task.image, 0, 0, task.image.get(0).size());
    }

    /** Both ways at each JZ; a way ends when it comes to the place that is the end. */
    private static long longest(List<List<Step>> image, int r, int from, int end) {
        if (from >= end) {
            return 0;
        }
        Step step = image.get(r).get(from);
        long cost = COSTS[step.op()];
        if (step.op() == Asm.JZ) {
            return cost + Math.max(longest(image, r, from + 1, end), longest(image, r, from + step.y() + 1, end));
        }
        if (step.op() == Asm.CALL) {
            cost += longest(image, step.y(), 0, image.get(step.y()).size());
        }
        int next = from + 1;
        if (step.op() == Asm.LOOP) {
            int close = closeOf(image.get(r), from);
            cost += step.y() * (longest(image, r, from + 1, close) + COSTS[Asm.END]);
            next = close + 1;
        }
        return cost + longest(image, r, next, end);
    }

    private static int closeOf(List<Step> steps, int opening) {
        int depth = 0;
        for (int p = opening; p < steps.size(); p++) {
            depth += steps.get(p).opens() ? 1 : steps.get(p).closes() ? -1 : 0;
            if (depth == 0) {
                return p;
            }
        }
        return -1;
    }

    private static int openOf(List<Step> steps, int closing) {
        for (int p = closing - 1; p >= 0; p--) {
            if (steps.get(p).opens() && closeOf(steps, p) == closing) {
                return p;
            }
        }
        return -1;
    }

    int section(int task, int resource) {
        if (!figures || !isTask(task) || resource < 0 || resource > 3) {
            return -1;
        }
        return (int) section(tasks.get(task), resource);
    }

    private static long section(Task task, int resource) {
        long greatest = 0;
        for (int r = 0; r < 3; r++) {
            List<Step> steps = task.image.get(r);
            for (int p = 0; p < steps.size(); p++) {
                if (steps.get(p).op() == Asm.LOCK && steps.get(p).y() == resource) {
                    greatest = Math.max(greatest, longest(task.image, r, p + 1, closeOf(steps, p)) + COSTS[Asm.UNLOCK]);
                }
            }
        }
        return greatest;
    }

    int ceiling(int resource) {
        for (int i = 0; figures && i < tasks.size(); i++) {
            if (tasks.get(i).image.stream().flatMap(List::stream)
                    .anyMatch(s -> s.op() == Asm.LOCK && s.y() == resource)) {
                return i;
            }
        }
        return -1;
    }

    int blocking(int task) {
        if (!figures || !isTask(task)) {
            return -1;
        }
        long greatest = -2;
        for (int j = task + 1; j < tasks.size(); j++) {
            for (int resource = 0; resource < 4; resource++) {
                int ceiling = ceiling(resource);
                long section = section(tasks.get(j), resource);
                if (section > 0 && ceiling <= task) {
                    greatest = Math.max(greatest, section);
                }
            }
        }
        return (int) greatest + 2;
    }

    int response(int task) {
        if (!figures || !isTask(task)) {
            return -1;
        }
        int last = -1;
        for (int i = 0; i <= task; i++) {
            last = ownResponse(i);
            if (last == -1) {
                return -1;
            }
        }
        return last;
    }

    private int ownResponse(int task) {
        long own = (long) blocking(task) + wcet(tasks.get(task)) + 2;
        long[] dear = new long[task];
        for (int j = 0; j < task; j++) {
            dear[j] = wcet(tasks.get(j)) + 4;
        }
        for (int time = 1; time <= tasks.get(task).deadline; time++) {
            long sum = own;
            for (int j = 0; j < task; j++) {
                int period = tasks.get(j).period;
                sum += (time / period + (time % period == 0 ? 0 : 1)) * dear[j];
            }
            if (sum == time) {
                return time;
            }
        }
        return -1;
    }

    // Promises 12 to 15.

    boolean start() {
        if (running || !figures) {
            return false;
        }
        running = true;
        cycles = switches = overdue = lost = idle = 0;
        latest = -1;
        previous = null;
        entries.clear();
        mailboxes.forEach(Deque::clear);
        ports[0] = ports[1] = 0;
        for (Task task : tasks) {
            task.job = null;
            task.worst = 0;
            task.events.clear();
            task.releases.clear();
            java.util.Arrays.fill(task.words, 0);
        }
        return true;
    }

    boolean halt() {
        boolean was = running;
        running = false;
        return was;
    }

    boolean signal(int number) {
        if (!running || !isTask(number) || tasks.get(number).offset != -1) {
            return false;
        }
        Task task = tasks.get(number);
        if (task.events.size() - task.releases.size() >= 4) {
            return false;
        }
        task.events.add(cycles);
        return true;
    }

    boolean input(int port, int value) {
        if (!running || port < 0 || port > 1) {
            return false;
        }
        ports[port] = value;
        return true;
    }

    // Promise 16.

    int run(int count) {
        if (!running || count < 1 || count > 500) {
            return -1;
        }
        int before = entries.size();
        for (int i = 0; i < count; i++) {
            makeCycle();
        }
        return entries.size() - before;
    }

    private void makeCycle() {
        for (int i = 0; i < tasks.size(); i++) {
            Task task = tasks.get(i);
            if (isDue(task)) {
                task.releases.add(cycles);
                if (task.job == null) {
                    task.job = new Job(cycles);
                    task.job.frames.push(new Frame(task.image.get(0)));
                } else {
                    lost++;
                    entries.add(new Entry(4, i, cycles, cycles - task.job.release));
                }
            }
        }
        latest = chosen();
        cycles++;
        if (latest == -1) {
            idle++;
            previous = null;
            return;
        }
        Job job = tasks.get(latest).job;
        if (job != previous) {
            switches++;
            job.switching = 2;
        }
        previous = job;
        job.cyclesGot++;
        if (job.switching > 0) {
            job.switching--;
            return;
        }
        Frame frame = job.frames.peek();
        Step step = frame.steps.get(frame.at);
        job.spent++;
        if (job.spent == COSTS[step.op()]) {
            job.spent = 0;
            job.done++;
            finish(tasks.get(latest), latest, step);
        }
    }

    private boolean isDue(Task task) {
        if (task.offset >= 0) {
            return cycles >= task.offset && (cycles - task.offset) % task.period == 0;
        }
        int next = task.releases.size();
        if (next >= task.events.size()) {
            return false;
        }
        int due = task.events.get(next);
        if (next > 0) {
            due = Math.max(due, task.releases.get(next - 1) + task.period);
        }
        return cycles == due;
    }

    private int activeNumber(int task) {
        int least = task;
        for (int resource : tasks.get(task).job.held) {
            least = Math.min(least, ceiling(resource));
        }
        return least;
    }

    private int chosen() {
        int best = -1;
        for (int i = 0; i < tasks.size(); i++) {
            if (tasks.get(i).job == null) {
                continue;
            }
            if (best == -1 || activeNumber(i) < activeNumber(best)) {
                best = i;
            } else if (activeNumber(i) == activeNumber(best) && tasks.get(i).job.cyclesGot > 0) {
                if (tasks.get(best).job.cyclesGot > 0) {
                    throw new IllegalStateException("two equals that got a cycle");
                }
                best = i;
            }
        }
        return best;
    }

    private void finish(Task task, int number, Step step) {
        Job job = task.job;
        Frame frame = job.frames.peek();
        int own = frame.at;
        frame.at++;
        int[] r = job.registers;
        int x = step.x();
        int y = step.y();
        boolean trap = step.op() == Asm.DIV && r[y] == 0;
        if (!trap) {
            switch (step.op()) {
                case Asm.SET -> r[x] = y;
                case Asm.ADD -> r[x] = (int) ((long) r[x] + (long) r[y]);
                case Asm.DIV -> r[x] = (int) ((long) r[x] / (long) r[y]);
                case Asm.LOAD -> r[x] = task.words[y];
                case Asm.STORE -> task.words[y] = r[x];
                case Asm.JZ -> frame.at = r[x] == 0 ? own + 1 + y : own + 1;
                case Asm.LOOP -> frame.rounds.push(y - 1);
                case Asm.END -> endOfRound(frame, own);
                case Asm.LOCK -> take(job, y);
                case Asm.UNLOCK -> job.held.remove(frame.steps.get(openOf(frame.steps, own)).y());
                case Asm.CALL -> job.frames.push(new Frame(task.image.get(y)));
                case Asm.IN -> r[x] = ports[y];
                case Asm.OUT -> entries.add(new Entry(1, number, cycles, r[x]));
                case Asm.SEND -> send(mailboxes.get(y), r, x);
                default -> receive(mailboxes.get(y), r, x);
            }
        }
        while (!job.frames.isEmpty() && job.frames.peek().at == job.frames.peek().steps.size()) {
            job.frames.pop();
        }
        if (trap || job.frames.isEmpty()) {
            int value = cycles - job.release;
            entries.add(new Entry(trap ? 3 : 2, number, cycles, value));
            task.worst = Math.max(task.worst, value);
            overdue += value > task.deadline ? 1 : 0;
            task.job = null;
        }
    }

    private void take(Job job, int resource) {
        for (Task other : tasks) {
            if (other.job != null && other.job.held.contains(resource)) {
                throw new IllegalStateException("a resource that is not free");
            }
        }
        job.held.add(resource);
    }

    private static void endOfRound(Frame frame, int own) {
        int left = frame.rounds.pop();
        if (left > 0) {
            frame.rounds.push(left - 1);
            frame.at = openOf(frame.steps, own) + 1;
        }
    }

    private static void send(Deque<Integer> mailbox, int[] r, int x) {
        if (mailbox.size() < 3) {
            mailbox.addLast(r[x]);
            r[0] = 1;
        } else {
            r[0] = 0;
        }
    }

    private static void receive(Deque<Integer> mailbox, int[] r, int x) {
        if (mailbox.isEmpty()) {
            r[0] = 0;
        } else {
            r[x] = mailbox.removeFirst();
            r[0] = 1;
        }
    }

    // Promises 17 to 21.

    int state(int what) {
        int[] all = {cycles, latest, switches, entries.size(), overdue, lost, idle};
        return running && what >= 0 && what < all.length ? all[what] : -1;
    }

    int job(int task, int what) {
        if (!running || !isTask(task) || tasks.get(task).job == null || what < 0 || what > 3) {
            return -1;
        }
        Job job = tasks.get(task).job;
        int bits = 0;
        for (int resource : job.held) {
            bits += 1 << resource;
        }
        return new int[] {activeNumber(task), cycles - job.release, job.done, bits}[what];
    }

    int worst(int task) {
        return running && isTask(task) ? tasks.get(task).worst : -1;
    }

    int word(int task, int k) {
        return running && isTask(task) && k >= 0 && k < 8 ? tasks.get(task).words[k] : -1;
    }

    int entry(int back, int what) {
        if (!running || back < 0 || back > 31 || back >= entries.size() || what < 0 || what > 3) {
            return -1;
        }
        return entries.get(entries.size() - 1 - back).part(what);
    }
}
