import java.util.Arrays;

/**
 * A kernel for a few hard real-time tasks: it checks the images of a small guest machine, works out
 * their longest running times, says whether every job of the set is bound to meet its deadline, and
 * runs the set cycle by cycle under priority ceilings.
 *
 * <p>Every row is made with the object and used again, so that no call makes an object.
 */
public final class CeilingKernel {
    private static final int NOTHING = -1;

    private static final int MOST_TASKS = 5;
    private static final int ROUTINES = 3;
    private static final int MOST_INSTRUCTIONS = 12;
    private static final int REGISTERS = 4;
    private static final int WORDS = 8;
    private static final int RESOURCES = 4;
    private static final int PORTS = 2;
    private static final int MAILBOXES = 2;
    private static final int MAILBOX_ROOM = 3;
    private static final int MOST_WAITING = 4;
    private static final int KEPT_ENTRIES = 32;
    private static final int LONGEST_TIME = 5000;
    private static final int MOST_CYCLES = 500;
    private static final int SPORADIC = -1;
    private static final int SWITCH_CYCLES = 2;

    private static final int SET = 0;
    private static final int ADD = 1;
    private static final int DIV = 2;
    private static final int LOAD = 3;
    private static final int STORE = 4;
    private static final int JZ = 5;
    private static final int LOOP = 6;
    private static final int END = 7;
    private static final int LOCK = 8;
    private static final int UNLOCK = 9;
    private static final int CALL = 10;
    private static final int IN = 11;
    private static final int OUT = 12;
    private static final int SEND = 13;
    private static final int RECEIVE = 14;

    private static final int LEAST_INT = -2147483648;
    private static final int GREATEST_INT = 2147483647;

    // By op, SET first.
    private static final int[] COST = {1, 1, 4, 2, 2, 2, 1, 1, 2, 1, 2, 1, 1, 2, 2};
    private static final int[] X_MOST = {3, 3, 3, 3, 3, 3, 0, 0, 0, 0, 0, 3, 3, 3, 3};
    private static final int[] Y_LEAST = {LEAST_INT, 0, 0, 0, 0, 1, 1, 0, 0, 0, 0, 0, 0, 0, 0};
    private static final int[] Y_MOST = {GREATEST_INT, 3, 3, 7, 7, 11, 8, 0, 3, 0, 2, 1, 0, 1, 1};

    private static final int SOUND = 0;
    private static final int EMPTY_IMAGE = 1;
    private static final int WRONG_CLOSE = 2;
    private static final int DEEP_LOOP = 3;
    private static final int WRONG_CALL = 4;
    private static final int LOCKED_TWICE = 5;
    private static final int WRONG_JUMP = 6;
    private static final int LEFT_OPEN = 7;
    private static final int LATE = 8;
    private static final int NO_TASK = 9;

    private static final int ENTRY_OUT = 1;
    private static final int ENTRY_DONE = 2;
    private static final int ENTRY_TRAP = 3;
    private static final int ENTRY_LOST = 4;

    private final Task[] tasks = new Task[MOST_TASKS];
    private final Checker checker = new Checker();
    private final Figures figures = new Figures();
    private final Machine machine;
    private int taskCount;

    public CeilingKernel() {
        for (int i = 0; i < MOST_TASKS; i++) {
            tasks[i] = new Task();
        }
        machine = new Machine(tasks, figures);
    }

    public int task(int period, int deadline, int offset) {
        boolean asSaid = isWithin(period, 1, LONGEST_TIME) && isWithin(deadline, 1, period)
                && isWithin(offset, SPORADIC, LONGEST_TIME);
        if (machine.going || taskCount >= MOST_TASKS || !asSaid) {
            return NOTHING;
        }
        tasks[taskCount].make(period, deadline, offset);
        figures.there = false;
        taskCount++;
        return taskCount - 1;
    }

    public boolean code(int task, int routine, int op, int x, int y) {
        if (machine.going || !isTask(task) || !isBelow(routine, ROUTINES) || !isInstruction(op, x, y)) {
            return false;
        }
        if (!tasks[task].image[routine].append(op, x, y)) {
            return false;
        }
        figures.there = false;
        return true;
    }

    public boolean wipe(int task) {
        if (machine.going || !isTask(task)) {
            return false;
        }
        tasks[task].clearImage();
        figures.there = false;
        return true;
    }

    public int admit() {
        if (machine.going) {
            return NOTHING;
        }
        figures.there = false;
        checker.met = NOTHING;
        if (taskCount == 0) {
            return NO_TASK;
        }
        for (int i = 0; i < taskCount; i++) {
            int reason = checker.reasonAgainst(tasks[i].image);
            if (reason != SOUND) {
                return reason + 10 * i;
            }
        }
        int late = figures.workOut(tasks, taskCount);
        return late == NOTHING ? 0 : LATE + 10 * late;
    }

    public int place() {
        return checker.met;
    }

    public int wcet(int task) {
        return hasFigures(task) ? figures.wcets[task] : NOTHING;
    }

    public int section(int task, int resource) {
        return hasFigures(task) && isBelow(resource, RESOURCES) ? figures.sections[task][resource] : NOTHING;
    }

    public int blocking(int task) {
        return hasFigures(task) ? figures.blockings[task] : NOTHING;
    }

    public int response(int task) {
        return hasFigures(task) ? figures.responses[task] : NOTHING;
    }

    public int ceiling(int resource) {
        return figures.there && isBelow(resource, RESOURCES) ? figures.ceilings[resource] : NOTHING;
    }

    public boolean start() {
        if (machine.going || !figures.there) {
            return false;
        }
        machine.begin(taskCount);
        return true;
    }

    public boolean halt() {
        if (!machine.going) {
            return false;
        }
        machine.going = false;
        return true;
    }

    public boolean signal(int task) {
        return runsTask(task) && machine.posts[task].takeEvent();
    }

    public boolean input(int port, int value) {
        if (!machine.going || !isBelow(port, PORTS)) {
            return false;
        }
        machine.ports[port] = value;
        return true;
    }

    public int run(int cycles) {
        return machine.going && isWithin(cycles, 1, MOST_CYCLES) ? machine.makeCycles(cycles) : NOTHING;
    }

    public int state(int what) {
        return machine.going ? machine.tell(what) : NOTHING;
    }

    public int job(int task, int what) {
        return runsTask(task) ? machine.tellOfJob(task, what) : NOTHING;
    }

    public int worst(int task) {
        return runsTask(task) ? machine.posts[task].longest : NOTHING;
    }

    public int word(int task, int k) {
        return runsTask(task) && isBelow(k, WORDS) ? machine.posts[task].words[k] : NOTHING;
    }

    public int entry(int back, int what) {
        return machine.going ? machine.journal.tell(back, what) : NOTHING;
    }

    private boolean isTask(int number) {
        return isBelow(number, taskCount);
    }

    private boolean hasFigures(int number) {
        return figures.there && isTask(number);
    }

    private boolean runsTask(int number) {
        return machine.going && isTask(number);
    }

    private static boolean isWithin(int number, int least, int most) {
        return number >= least && number <= most;
    }

    private static boolean isBelow(int number, int bound) {
        return number >= 0 && number < bound;
    }

    private static boolean isInstruction(int op, int x, int y) {
        return isBelow(op, COST.length) && isWithin(x, 0, X_MOST[op]) && isWithin(y, Y_LEAST[op], Y_MOST[op]);
    }

    /** The instructions of one routine, and what checking and costing find out about them. */
    private static final class Routine {
        final int[] ops = new int[MOST_INSTRUCTIONS];
        final int[] xs = new int[MOST_INSTRUCTIONS];
        final int[] ys = new int[MOST_INSTRUCTIONS];
        /** Of a bracket's opening place the closing one, and the other way round; of sound images alone. */
        final int[] mates = new int[MOST_INSTRUCTIONS];
        int size;
        /** Bit r: the routine may lock resource r. */
        int mayLock;
        int cost;

        boolean append(int op, int x, int y) {
            if (size >= MOST_INSTRUCTIONS) {
                return false;
            }
            ops[size] = op;
            xs[size] = x;
            ys[size] = y;
            size++;
            return true;
        }

        void join(int opening, int closing) {
            mates[opening] = closing;
            mates[closing] = opening;
        }

        /** The y of the LOOP or LOCK that belongs to the END or UNLOCK at a place. */
        int openerY(int closing) {
            return ys[mates[closing]];
        }
    }

    /** A task as it was made, with its image. */
    private static final class Task {
        final Routine[] image = new Routine[ROUTINES];
        int period;
        int deadline;
        int offset;

        Task() {
            for (int r = 0; r < ROUTINES; r++) {
                image[r] = new Routine();
            }
        }

        void make(int newPeriod, int newDeadline, int newOffset) {
            period = newPeriod;
            deadline = newDeadline;
            offset = newOffset;
        }

        void clearImage() {
            for (int r = 0; r < ROUTINES; r++) {
                image[r].size = 0;
            }
        }

        boolean isPeriodic() {
            return offset != SPORADIC;
        }
    }

    /** Looks for the first reason against an image, and joins the brackets of a sound one on the way. */
    private static final class Checker {
        /** 100 * routine + place of the reason that was met, or NOTHING. */
        int met = NOTHING;
        private final int[] open = new int[MOST_INSTRUCTIONS];
        private int openCount;
        private int openLoops;
        private int openLocks;

        int reasonAgainst(Routine[] image) {
            findLocks(image);
            for (int r = 0; r < ROUTINES; r++) {
                int reason = checkRoutine(image, r);
                if (reason != SOUND) {
                    return reason;
                }
            }
            return SOUND;
        }

        /** From the greatest number down: a CALL that counts is one of a greater number. */
        private void findLocks(Routine[] image) {
            for (int r = ROUTINES - 1; r >= 0; r--) {
                Routine routine = image[r];
                routine.mayLock = 0;
                for (int p = 0; p < routine.size; p++) {
                    int y = routine.ys[p];
                    if (routine.ops[p] == LOCK) {
                        routine.mayLock |= 1 << y;
                    } else if (routine.ops[p] == CALL && y > r) {
                        routine.mayLock |= image[y].mayLock;
                    }
                }
            }
        }

        private int checkRoutine(Routine[] image, int number) {
            Routine routine = image[number];
            openCount = 0;
            openLoops = 0;
            openLocks = 0;
            if (number == 0 && routine.size == 0) {
                return meet(EMPTY_IMAGE, number, 0);
            }
            for (int p = 0; p < routine.size; p++) {
                int reason = checkInstruction(image, number, p);
                if (reason != SOUND) {
                    return meet(reason, number, p);
                }
            }
            return openCount > 0 ? meet(LEFT_OPEN, number, routine.size) : SOUND;
        }

        private int meet(int reason, int number, int p) {
            met = 100 * number + p;
            return reason;
        }

        private int checkInstruction(Routine[] image, int number, int p) {
            Routine routine = image[number];
            switch (routine.ops[p]) {
                case LOOP:
                    return openLoop(p);
                case LOCK:
                    return openLock(p, 1 << routine.ys[p]);
                case END:
                    return close(routine, p, LOOP);
                case UNLOCK:
                    return close(routine, p, LOCK);
                case CALL:
                    return checkCall(image, number, routine.ys[p]);
                case JZ:
                    return checkJump(routine, p);
                default:
                    return SOUND;
            }
        }

        private int openLoop(int p) {
            if (openLoops >= 2) {
                return DEEP_LOOP;
            }
            openLoops++;
            return openBracket(p);
        }

        private int openLock(int p, int bit) {
            if ((openLocks & bit) != 0) {
                return LOCKED_TWICE;
            }
            openLocks |= bit;
            return openBracket(p);
        }

        private int openBracket(int p) {
            open[openCount] = p;
            openCount++;
            return SOUND;
        }

        private int close(Routine routine, int p, int opener) {
            if (openCount == 0 || routine.ops[open[openCount - 1]] != opener) {
                return WRONG_CLOSE;
            }
            openCount--;
            routine.join(open[openCount], p);
            if (opener == LOOP) {
                openLoops--;
            } else {
                openLocks &= ~(1 << routine.openerY(p));
            }
            return SOUND;
        }

        private int checkCall(Routine[] image, int number, int called) {
            if (called <= number || image[called].size == 0) {
                return WRONG_CALL;
            }
            return (image[called].mayLock & openLocks) != 0 ? LOCKED_TWICE : SOUND;
        }

        private int checkJump(Routine routine, int p) {
            int target = p + routine.ys[p] + 1;
            if (target > routine.size) {
                return WRONG_JUMP;
            }
            int balance = 0;
            for (int q = p + 1; q < target && balance >= 0; q++) {
                balance += bracketStep(routine.ops[q]);
            }
            return balance != 0 ? WRONG_JUMP : SOUND;
        }

        private static int bracketStep(int op) {
            if (op == LOOP || op == LOCK) {
                return 1;
            }
            return op == END || op == UNLOCK ? -1 : 0;
        }
    }

    /** The figures of a set whose images are all sound. */
    private static final class Figures {
        boolean there;
        final int[] wcets = new int[MOST_TASKS];
        final int[][] sections = new int[MOST_TASKS][RESOURCES];
        final int[] blockings = new int[MOST_TASKS];
        final int[] responses = new int[MOST_TASKS];
        final int[] ceilings = new int[RESOURCES];

        /** The number of the first late task, or NOTHING. */
        int workOut(Task[] tasks, int count) {
            Arrays.fill(ceilings, NOTHING);
            for (int i = 0; i < count; i++) {
                costImage(tasks[i].image);
                wcets[i] = tasks[i].image[0].cost;
                findSections(tasks[i].image, i);
            }
            for (int i = 0; i < count; i++) {
                blockings[i] = findBlocking(i, count);
            }
            there = true;
            return findResponses(tasks, count);
        }

        /** From the greatest number down, so that a CALL finds the cost of its routine. */
        private static void costImage(Routine[] image) {
            for (int r = ROUTINES - 1; r >= 0; r--) {
                image[r].cost = costOfSpan(image, image[r], 0, image[r].size);
            }
        }

        /**
         * The dearest way is the one on which no JZ jumps: a jump only leaves instructions out. Even
         * three routines of nested loops full of CALLs stay below 560 million cycles.
         */
        private static int costOfSpan(Routine[] image, Routine routine, int from, int to) {
            int total = 0;
            int rounds = 1;
            for (int p = from; p < to; p++) {
                int op = routine.ops[p];
                total += rounds * COST[op];
                if (op == LOOP) {
                    rounds *= routine.ys[p];
                } else if (op == END) {
                    rounds /= Math.max(1, routine.openerY(p));
                } else if (op == CALL) {
                    total += rounds * image[routine.ys[p]].cost;
                }
            }
            return total;
        }

        /** Tasks come in the order of their numbers, so the first with a LOCK is the ceiling. */
        private void findSections(Routine[] image, int number) {
            Arrays.fill(sections[number], 0);
            for (int r = 0; r < ROUTINES; r++) {
                Routine routine = image[r];
                for (int p = 0; p < routine.size; p++) {
                    if (routine.ops[p] == LOCK) {
                        int cost = costOfSpan(image, routine, p + 1, routine.mates[p] + 1);
                        takeSection(number, routine.ys[p], cost);
                    }
                }
            }
        }

        private void takeSection(int number, int resource, int cost) {
            sections[number][resource] = Math.max(sections[number][resource], cost);
            if (ceilings[resource] == NOTHING) {
                ceilings[resource] = number;
            }
        }

        /** A section has an UNLOCK at least, so 0 says that there is none. */
        private int findBlocking(int number, int count) {
            int greatest = 0;
            for (int resource = 0; resource < RESOURCES; resource++) {
                if (isWithin(ceilings[resource], 0, number)) {
                    for (int j = number + 1; j < count; j++) {
                        greatest = Math.max(greatest, sections[j][resource]);
                    }
                }
            }
            return greatest == 0 ? 0 : greatest + SWITCH_CYCLES;
        }

        private int findResponses(Task[] tasks, int count) {
            Arrays.fill(responses, NOTHING);
            for (int i = 0; i < count; i++) {
                responses[i] = findResponse(tasks, i);
                if (responses[i] == NOTHING) {
                    return i;
                }
            }
            return NOTHING;
        }

        /** The demand never falls while the time grows, so going up from 1 meets the least answer first. */
        private int findResponse(Task[] tasks, int number) {
            int deadline = tasks[number].deadline;
            int time = 1;
            for (int step = 0; step <= deadline; step++) {
                int demand = demandWithin(tasks, number, time);
                if (demand > deadline) {
                    return NOTHING;
                }
                if (demand == time) {
                    return time;
                }
                time = demand;
            }
            return NOTHING;
        }

        /** No more urgent task is late here, so what they add is small and the sum stays an int. */
        private int demandWithin(Task[] tasks, int number, int time) {
            int demand = blockings[number] + wcets[number] + SWITCH_CYCLES;
            for (int j = 0; j < number; j++) {
                int period = Math.max(1, tasks[j].period);
                int releases = (time + period - 1) / period;
                demand += releases * (wcets[j] + 2 * SWITCH_CYCLES);
            }
            return demand;
        }

        int activeNumber(int number, int held) {
            int active = number;
            for (int resource = 0; resource < RESOURCES; resource++) {
                if ((held & (1 << resource)) != 0 && ceilings[resource] != NOTHING) {
                    active = Math.min(active, ceilings[resource]);
                }
            }
            return active;
        }
    }

    /** The job of a task, if it has one: where it stands and what it holds. */
    private static final class Job {
        boolean alive;
        boolean begun;
        boolean trapped;
        int active;
        int held;
        int releasedAt;
        int instructionsDone;
        int switchLeft;
        final int[] registers = new int[REGISTERS];
        private final Routine[] image;
        private int current;
        private int at;
        private int spent;
        // No routine can stand open twice, so a row by routine holds all returns and rounds.
        private final int[] callers = new int[ROUTINES];
        private final int[] returns = new int[ROUTINES];
        private final int[][] roundsLeft = new int[ROUTINES][MOST_INSTRUCTIONS];

        Job(Routine[] image) {
            this.image = image;
        }

        void release(int number, int time) {
            alive = true;
            begun = false;
            trapped = false;
            active = number;
            held = 0;
            releasedAt = time;
            instructionsDone = 0;
            switchLeft = 0;
            current = 0;
            at = 0;
            spent = 0;
            Arrays.fill(registers, 0);
        }

        boolean goesBefore(Job other) {
            return active < other.active || (active == other.active && begun && !other.begun);
        }

        Routine routine() {
            return image[current];
        }

        int spot() {
            return at;
        }

        /** One cycle for the instruction; true if it was the last that it costs. */
        boolean spendCycle() {
            spent++;
            return spent >= COST[image[current].ops[at]];
        }

        void stepBehind() {
            spent = 0;
            instructionsDone++;
            at++;
        }

        /** What needs nothing but the job; p is the instruction's own place, the job is behind it already. */
        void compute(int op, int x, int y, int p) {
            switch (op) {
                case SET:
                    registers[x] = y;
                    break;
                case ADD:
                    registers[x] += registers[y];
                    break;
                case DIV:
                    divide(x, y);
                    break;
                case JZ:
                    at += registers[x] == 0 ? y : 0;
                    break;
                case LOOP:
                    roundsLeft[current][p] = y;
                    break;
                case END:
                    closeRound(image[current].mates[p]);
                    break;
                case CALL:
                    enter(y);
                    break;
                default:
                    break;
            }
        }

        private void divide(int x, int y) {
            if (registers[y] == 0) {
                trapped = true;
            } else {
                registers[x] /= registers[y];
            }
        }

        private void closeRound(int loop) {
            roundsLeft[current][loop]--;
            if (roundsLeft[current][loop] > 0) {
                at = loop + 1;
            }
        }

        private void enter(int called) {
            callers[called] = current;
            returns[called] = at;
            current = called;
            at = 0;
        }

        /** Goes back behind the CALLs whose routines are through; true if routine 0 is through as well. */
        boolean isThrough() {
            for (int level = 0; level < ROUTINES && current > 0 && at >= image[current].size; level++) {
                at = returns[current];
                current = callers[current];
            }
            return at >= image[current].size;
        }
    }

    /** What a run keeps for a task beside its job. */
    private static final class Post {
        final Task task;
        final Job job;
        final int[] words = new int[WORDS];
        int longest;
        private int nextDue;
        private int waiting;

        Post(Task task) {
            this.task = task;
            this.job = new Job(task.image);
        }

        void reset() {
            job.alive = false;
            Arrays.fill(words, 0);
            longest = 0;
            nextDue = task.isPeriodic() ? task.offset : 0;
            waiting = 0;
        }

        boolean takeEvent() {
            if (task.isPeriodic() || waiting >= MOST_WAITING) {
                return false;
            }
            waiting++;
            return true;
        }

        /** Every event that waits came at the time or before it, so only the period can hold it back. */
        boolean isDue(int time) {
            return time >= nextDue && (task.isPeriodic() || waiting > 0);
        }

        void passRelease(int time) {
            nextDue = time + task.period;
            if (!task.isPeriodic()) {
                waiting--;
            }
        }
    }

    /** Numbers on their way between jobs, the one that is there longest first. */
    private static final class Mailbox {
        private final int[] numbers = new int[MAILBOX_ROOM];
        private int count;

        void clear() {
            count = 0;
        }

        boolean isEmpty() {
            return count == 0;
        }

        boolean put(int number) {
            if (count >= MAILBOX_ROOM) {
                return false;
            }
            numbers[count] = number;
            count++;
            return true;
        }

        int take() {
            if (count == 0) {
                return 0;
            }
            int first = numbers[0];
            count--;
            for (int i = 0; i < count; i++) {
                numbers[i] = numbers[i + 1];
            }
            return first;
        }
    }

    /** The latest entries of a run, the row used round and round. */
    private static final class Journal {
        int made;
        private final int[] kinds = new int[KEPT_ENTRIES];
        private final int[] numbers = new int[KEPT_ENTRIES];
        private final int[] times = new int[KEPT_ENTRIES];
        private final int[] values = new int[KEPT_ENTRIES];

        void add(int kind, int number, int time, int value) {
            int slot = made & (KEPT_ENTRIES - 1);
            kinds[slot] = kind;
            numbers[slot] = number;
            times[slot] = time;
            values[slot] = value;
            made++;
        }

        int tell(int back, int what) {
            if (!isBelow(back, Math.min(made, KEPT_ENTRIES))) {
                return NOTHING;
            }
            int slot = (made - 1 - back) & (KEPT_ENTRIES - 1);
            switch (what) {
                case 0:
                    return kinds[slot];
                case 1:
                    return numbers[slot];
                case 2:
                    return times[slot];
                case 3:
                    return values[slot];
                default:
                    return NOTHING;
            }
        }
    }

    /** The run: who gets which cycle, and what comes of it. */
    private static final class Machine {
        boolean going;
        final Post[] posts = new Post[MOST_TASKS];
        final int[] ports = new int[PORTS];
        final Journal journal = new Journal();
        private final Figures figures;
        private final Mailbox[] mailboxes = new Mailbox[MAILBOXES];
        private int taskCount;
        private int cyclesMade;
        /** The task whose job got the latest cycle, or NOTHING once that job has ended. */
        private int holder;
        private int latest;
        private int switches;
        private int overdue;
        private int lost;
        private int idle;

        Machine(Task[] tasks, Figures figures) {
            this.figures = figures;
            for (int i = 0; i < MOST_TASKS; i++) {
                posts[i] = new Post(tasks[i]);
            }
            for (int i = 0; i < MAILBOXES; i++) {
                mailboxes[i] = new Mailbox();
            }
        }

        void begin(int count) {
            going = true;
            taskCount = count;
            cyclesMade = 0;
            holder = NOTHING;
            latest = NOTHING;
            switches = 0;
            overdue = 0;
            lost = 0;
            idle = 0;
            journal.made = 0;
            Arrays.fill(ports, 0);
            for (int i = 0; i < MAILBOXES; i++) {
                mailboxes[i].clear();
            }
            for (int i = 0; i < count; i++) {
                posts[i].reset();
            }
        }

        int makeCycles(int cycles) {
            int before = journal.made;
            for (int i = 0; i < cycles; i++) {
                makeReleases();
                latest = chooseTask();
                cyclesMade++;
                if (latest == NOTHING) {
                    idle++;
                } else {
                    giveCycle(latest);
                }
            }
            return journal.made - before;
        }

        private void makeReleases() {
            for (int i = 0; i < taskCount; i++) {
                if (posts[i].isDue(cyclesMade)) {
                    posts[i].passRelease(cyclesMade);
                    makeRelease(i, posts[i].job);
                }
            }
        }

        private void makeRelease(int number, Job job) {
            if (job.alive) {
                lost++;
                journal.add(ENTRY_LOST, number, cyclesMade, cyclesMade - job.releasedAt);
            } else {
                job.release(number, cyclesMade);
            }
        }

        private int chooseTask() {
            int chosen = NOTHING;
            for (int i = 0; i < taskCount; i++) {
                Job job = posts[i].job;
                if (job.alive && (chosen == NOTHING || job.goesBefore(posts[chosen].job))) {
                    chosen = i;
                }
            }
            return chosen;
        }

        private void giveCycle(int number) {
            Job job = posts[number].job;
            if (holder != number) {
                holder = number;
                switches++;
                job.begun = true;
                job.switchLeft = SWITCH_CYCLES;
            }
            if (job.switchLeft > 0) {
                job.switchLeft--;
            } else if (job.spendCycle()) {
                finishInstruction(number, job);
            }
        }

        private void finishInstruction(int number, Job job) {
            perform(number, job);
            if (job.trapped) {
                endJob(number, ENTRY_TRAP);
            } else if (job.isThrough()) {
                endJob(number, ENTRY_DONE);
            }
        }

        private void perform(int number, Job job) {
            Routine routine = job.routine();
            int p = job.spot();
            int x = routine.xs[p];
            int y = routine.ys[p];
            job.stepBehind();
            switch (routine.ops[p]) {
                case LOAD:
                    job.registers[x] = posts[number].words[y];
                    break;
                case STORE:
                    posts[number].words[y] = job.registers[x];
                    break;
                case LOCK:
                    hold(number, job, job.held | (1 << y));
                    break;
                case UNLOCK:
                    hold(number, job, job.held & ~(1 << routine.openerY(p)));
                    break;
                case IN:
                    job.registers[x] = ports[y];
                    break;
                case OUT:
                    journal.add(ENTRY_OUT, number, cyclesMade, job.registers[x]);
                    break;
                case SEND:
                    job.registers[0] = mailboxes[y].put(job.registers[x]) ? 1 : 0;
                    break;
                case RECEIVE:
                    receive(mailboxes[y], job.registers, x);
                    break;
                default:
                    job.compute(routine.ops[p], x, y, p);
                    break;
            }
        }

        private void hold(int number, Job job, int resources) {
            job.held = resources;
            job.active = figures.activeNumber(number, resources);
        }

        private static void receive(Mailbox mailbox, int[] registers, int x) {
            if (mailbox.isEmpty()) {
                registers[0] = 0;
            } else {
                registers[x] = mailbox.take();
                registers[0] = 1;
            }
        }

        /** The processor is nobody's then: a new job of the same task begins with a switch, too. */
        private void endJob(int number, int kind) {
            Post post = posts[number];
            int value = cyclesMade - post.job.releasedAt;
            post.job.alive = false;
            holder = NOTHING;
            post.longest = Math.max(post.longest, value);
            if (value > post.task.deadline) {
                overdue++;
            }
            journal.add(kind, number, cyclesMade, value);
        }

        int tell(int what) {
            switch (what) {
                case 0:
                    return cyclesMade;
                case 1:
                    return latest;
                case 2:
                    return switches;
                case 3:
                    return journal.made;
                case 4:
                    return overdue;
                case 5:
                    return lost;
                case 6:
                    return idle;
                default:
                    return NOTHING;
            }
        }

        int tellOfJob(int number, int what) {
            Job job = posts[number].job;
            if (!job.alive) {
                return NOTHING;
            }
            switch (what) {
                case 0:
                    return job.active;
                case 1:
                    return cyclesMade - job.releasedAt;
                case 2:
                    return job.instructionsDone;
                case 3:
                    return job.held;
                default:
                    return NOTHING;
            }
        }
    }
}
