import java.util.ArrayList;
import java.util.Arrays;
import java.util.List;
import java.util.function.Consumer;
import java.util.function.Function;
import java.util.function.Supplier;
import java.util.function.ToIntFunction;

/**
 * What must leave no trace: one object gets calls that its twin does not get, and then both are asked
 * and used alike. Each look is at new twins, so that no object comes to its 512th call.
 */
public final class RefusedTest {
    /** Five tasks that lock, call, send, trap and lose releases; the image of task 3 is full. */
    private static final String[] FIVE = {
        "40 40 -1 | LOCK 0; IN 1 0; STORE 1 2; UNLOCK; OUT 1",
        "60 60 3 | CALL 1; SEND 1 0; SEND 1 1 | LOCK 1; LOCK 0; LOAD 1 0; UNLOCK; UNLOCK",
        "50 50 -1 | SET 2 1; LOAD 1 1; ADD 1 2; STORE 1 1; JZ 3 1; OUT 0; OUT 1",
        "90 90 0 | LOOP 2; LOCK 1; RECEIVE 2 0; SET 3 1; ADD 2 3; STORE 2 7; LOAD 1 7; DIV 1 2; UNLOCK; OUT 1; END; OUT 0"
            + " | " + Asm.times(12, "SET 0 1") + " | " + Asm.times(12, "SET 0 2"),
        "30 20 1 | LOOP 3; RECEIVE 2 1; END; LOCK 3; DIV 1 0; UNLOCK"};

    private record State(String name, boolean runs, boolean figures, Supplier<CeilingKernel> make) {
    }

    /** Answers -1 when it is refused; a call that answers boolean is told as 1 or -1. */
    private record Call(String name, ToIntFunction<CeilingKernel> on) {
    }

    private record Use(String name, Function<CeilingKernel, List<Integer>> on) {
    }

    private static final List<State> STATES = List.of(
            new State("a new object", false, false, CeilingKernel::new),
            new State("no task, admit() has answered", false, false, () -> with(new CeilingKernel(), k -> k.admit())),
            new State("an empty image", false, false, () -> Asm.tasks("10 10 0")),
            new State("images that were not looked at", false, false, () -> Asm.tasks(FIVE)),
            new State("a reason", false, false, () -> with(Asm.tasks("9 9 0 | SET 0 0", "9 9 -1 | SET 0 0; END"),
                    k -> k.admit())),
            new State("figures of five", false, true, () -> Asm.figured(FIVE)),
            new State("figures of one", false, true, () -> Asm.figured("10 10 -1 | LOCK 2; UNLOCK")),
            new State("a late task", false, true, () -> Asm.figured("10 2 0 | LOCK 2; UNLOCK", "10 10 -1 | OUT 0")),
            new State("a run of one, just begun", true, true, () -> Asm.started("10 10 -1 | LOCK 2; UNLOCK")),
            new State("a run of five, just begun", true, true, () -> Asm.started(FIVE)),
            new State("a run of five, 1 cycle", true, true, () -> busy(1)),
            new State("a run of five, 7 cycles", true, true, () -> busy(7)),
            new State("a run of five, 58 cycles", true, true, () -> busy(58)),
            new State("a run of five, 450 cycles", true, true, () -> busy(450)),
            new State("a run that was ended", false, true, () -> with(busy(58), k -> k.halt())));

    private RefusedTest() {
    }

    public static void main(String[] args) throws Exception {
        Sentences.test(RefusedTest.class);
    }

    private static CeilingKernel with(CeilingKernel k, Consumer<CeilingKernel> calls) {
        calls.accept(k);
        return k;
    }

    private static CeilingKernel busy(int cycles) {
        return busy(cycles, FIVE);
    }

    /** A run with events that wait, ports that are set, and jobs wherever the cycles leave them. */
    private static CeilingKernel busy(int cycles, String... texts) {
        CeilingKernel k = Asm.started(texts);
        k.input(0, 77);
        k.signal(2);
        k.run(cycles);
        k.input(1, -8);
        for (int i = 0; i < 5; i++) {
            k.signal(0);
        }
        return k;
    }

    private static int told(boolean answer) {
        return answer ? 1 : -1;
    }

    // Calls that are refused.

    /** Numbers that are not as said for any object. */
    private static List<Call> wrongChanges() {
        List<Call> calls = new ArrayList<>();
        int[][] tasks = {{0, 1, 0}, {5001, 1, 0}, {10, 0, 0}, {10, 11, 0}, {10, 10, -2}, {10, 10, 5001}};
        for (int[] t : tasks) {
            calls.add(new Call("task(" + t[0] + ", " + t[1] + ", " + t[2] + ")", k -> k.task(t[0], t[1], t[2])));
        }
        int[][] codes = {
            {-1, 0, 0, 0, 0}, {5, 0, 0, 0, 0}, {0, -1, 0, 0, 0}, {0, 3, 0, 0, 0}, {0, 0, -1, 0, 0}, {0, 0, 15, 0, 0},
            {0, 0, Asm.SET, -1, 0}, {0, 1, Asm.SET, 4, 0}, {0, 2, Asm.LOCK, 1, 0}, {0, 0, Asm.LOCK, 0, 4},
            {0, 0, Asm.LOOP, 0, 0}, {0, 0, Asm.LOOP, 0, 9}, {0, 0, Asm.JZ, 0, 0}, {0, 0, Asm.JZ, 0, 12},
            {0, 0, Asm.END, 0, 1}, {0, 0, Asm.OUT, 0, 1}, {0, 0, Asm.CALL, 0, 3}, {0, 0, Asm.LOAD, 0, 8},
            {0, 0, Asm.STORE, 0, -1}, {0, 0, Asm.IN, 0, 2}, {0, 0, Asm.SEND, 0, 2}};
        for (int[] c : codes) {
            calls.add(new Call("code" + Arrays.toString(c), k -> told(k.code(c[0], c[1], c[2], c[3], c[4]))));
        }
        for (int task : new int[] {-1, 5}) {
            calls.add(new Call("wipe(" + task + ")", k -> told(k.wipe(task))));
            calls.add(new Call("signal(" + task + ")", k -> told(k.signal(task))));
        }
        for (int port : new int[] {-1, 2}) {
            calls.add(new Call("input(" + port + ", 9)", k -> told(k.input(port, 9))));
        }
        for (int cycles : new int[] {-1, 0, 501}) {
            calls.add(new Call("run(" + cycles + ")", k -> k.run(cycles)));
        }
        return calls;
    }

    private static List<Call> wrongQuestions() {
        List<Call> calls = new ArrayList<>();
        for (int n : new int[] {-1, 5}) {
            calls.add(new Call("wcet(" + n + ")", k -> k.wcet(n)));
            calls.add(new Call("section(" + n + ", 0)", k -> k.section(n, 0)));
            calls.add(new Call("blocking(" + n + ")", k -> k.blocking(n)));
            calls.add(new Call("response(" + n + ")", k -> k.response(n)));
            calls.add(new Call("job(" + n + ", 0)", k -> k.job(n, 0)));
            calls.add(new Call("worst(" + n + ")", k -> k.worst(n)));
            calls.add(new Call("word(" + n + ", 0)", k -> k.word(n, 0)));
            calls.add(new Call("section(0, " + n + ")", k -> k.section(0, n)));
            calls.add(new Call("ceiling(" + n + ")", k -> k.ceiling(n)));
            calls.add(new Call("job(0, " + n + ")", k -> k.job(0, n)));
            calls.add(new Call("entry(0, " + n + ")", k -> k.entry(0, n)));
        }
        for (int n : new int[] {-1, 32}) {
            calls.add(new Call("state(" + n + ")", k -> k.state(n)));
            calls.add(new Call("word(0, " + n + ")", k -> k.word(0, n)));
            calls.add(new Call("entry(" + n + ", 0)", k -> k.entry(n, 0)));
        }
        return calls;
    }

    private static List<Call> refusedInARun() {
        List<Call> calls = new ArrayList<>();
        calls.add(new Call("task(10, 10, 0)", k -> k.task(10, 10, 0)));
        calls.add(new Call("task(10, 10, -1)", k -> k.task(10, 10, -1)));
        for (int task = 0; task < 5; task++) {
            int number = task;
            calls.add(new Call("code(" + task + ", 0, 0, 0, 5)", k -> told(k.code(number, 0, Asm.SET, 0, 5))));
            calls.add(new Call("code(" + task + ", 2, 7, 0, 0)", k -> told(k.code(number, 2, Asm.END, 0, 0))));
            calls.add(new Call("wipe(" + task + ")", k -> told(k.wipe(number))));
        }
        calls.add(new Call("admit()", k -> k.admit()));
        calls.add(new Call("start()", k -> told(k.start())));
        return calls;
    }

    private static List<Call> refusedWithoutARun() {
        List<Call> calls = new ArrayList<>();
        calls.add(new Call("halt()", k -> told(k.halt())));
        for (int task = 0; task < 5; task++) {
            int number = task;
            calls.add(new Call("signal(" + task + ")", k -> told(k.signal(number))));
        }
        for (int port = 0; port < 2; port++) {
            int number = port;
            calls.add(new Call("input(" + port + ", 9)", k -> told(k.input(number, 9))));
        }
        calls.add(new Call("run(1)", k -> k.run(1)));
        calls.add(new Call("run(500)", k -> k.run(500)));
        return calls;
    }

    // What twins are used for behind the call.

    private static List<Integer> write(CeilingKernel k) {
        List<Integer> seen = new ArrayList<>();
        for (int task = 0; task < 5; task++) {
            for (int routine = 0; routine < 3; routine++) {
                int taken = 0;
                while (taken < 13 && k.code(task, routine, Asm.LOAD, 1, 3)) {
                    taken++;
                }
                seen.add(taken);
            }
        }
        for (int i = 0; i < 6; i++) {
            seen.add(k.task(10, 10, 0));
        }
        seen.add(k.admit());
        seen.add(k.place());
        return seen;
    }

    private static List<Integer> begin(CeilingKernel k) {
        List<Integer> seen = new ArrayList<>();
        seen.add(told(k.start()));
        seen.addAll(Look.run(k));
        for (int task = 0; task < 5; task++) {
            seen.add(told(k.signal(task)));
        }
        seen.add(k.run(95));
        seen.addAll(Look.run(k));
        return seen;
    }

    private static List<Integer> admitAndBegin(CeilingKernel k) {
        List<Integer> seen = new ArrayList<>();
        seen.add(k.admit());
        seen.addAll(Look.figures(k));
        seen.addAll(begin(k));
        return seen;
    }

    private static List<Integer> goOn(CeilingKernel k, int cycles) {
        List<Integer> seen = new ArrayList<>();
        seen.add(k.run(cycles));
        seen.addAll(Look.run(k));
        return seen;
    }

    private static List<Integer> signalAndGoOn(CeilingKernel k) {
        List<Integer> seen = new ArrayList<>();
        for (int task = 0; task < 5; task++) {
            for (int i = 0; i < 5; i++) {
                seen.add(told(k.signal(task)));
            }
        }
        seen.addAll(goOn(k, 200));
        return seen;
    }

    private static List<Integer> haltAndBegin(CeilingKernel k) {
        List<Integer> seen = new ArrayList<>();
        seen.add(told(k.halt()));
        seen.addAll(begin(k));
        return seen;
    }

    private static List<Use> uses(boolean runs) {
        Use look = new Use("looked at", Look::all);
        if (runs) {
            return List.of(look, new Use("run(1)", k -> goOn(k, 1)), new Use("run(133)", k -> goOn(k, 133)),
                    new Use("signalled and run", RefusedTest::signalAndGoOn), new Use("begun anew",
                            RefusedTest::haltAndBegin));
        }
        return List.of(look, new Use("written", RefusedTest::write), new Use("begun", RefusedTest::begin),
                new Use("admitted and begun", RefusedTest::admitAndBegin));
    }

    private static void changesNothing(State state, Call call) {
        for (Use use : uses(state.runs())) {
            CeilingKernel twin = state.make().get();
            CeilingKernel called = state.make().get();
            String name = call.name() + " in " + state.name();
            Checks.due(name, call.on().applyAsInt(called), -1);
            Checks.same(name + ", then " + use.name(), use.on().apply(called), use.on().apply(twin));
        }
    }

    @Says("A call that is refused changes nothing; a call that answers int and has nothing to answer (it is refused, "
            + "a number is not as said, there is no run, no figure, no such thing) answers -1.")
    private static void refusedCallsChangeNothing() {
        for (State state : STATES) {
            List<Call> calls = wrongChanges();
            calls.addAll(state.runs() ? refusedInARun() : refusedWithoutARun());
            if (!state.figures()) {
                calls.add(new Call("start()", k -> told(k.start())));
            }
            for (Call call : calls) {
                changesNothing(state, call);
            }
        }
    }

    @Says("has nothing to answer")
    private static void questionsWithoutAnAnswerChangeNothing() {
        for (State state : STATES) {
            for (Call call : wrongQuestions()) {
                changesNothing(state, call);
            }
        }
    }

    @Says("five tasks are there")
    private static void aSixthTaskChangesNothing() {
        for (State state : List.of(STATES.get(3), STATES.get(5))) {
            for (int offset : new int[] {-1, 0}) {
                changesNothing(state, new Call("task(10, 10, " + offset + ")", k -> k.task(10, 10, offset)));
            }
        }
    }

    @Says("12 are there")
    private static void aThirteenthInstructionChangesNothing() {
        for (State state : List.of(STATES.get(3), STATES.get(5))) {
            for (int routine = 0; routine < 3; routine++) {
                int number = routine;
                changesNothing(state, new Call("code(3, " + routine + ", 0, 0, 0)", k -> told(k.code(3, number,
                        Asm.SET, 0, 0))));
            }
        }
    }

    @Says("it is periodic, or 4 of its events wait")
    private static void eventsThatAreNotTakenChangeNothing() {
        for (State state : STATES.subList(10, 14)) {
            for (int task : new int[] {1, 3, 4, 0}) {
                changesNothing(state, new Call("signal(" + task + ")", k -> told(k.signal(task))));
            }
        }
    }

    @Says("start() begins a RUN, halt() ends it; nothing of a run is left to the next.")
    private static void nothingIsLeftToTheNextRun() {
        String[] late = {"7 7 -1 | LOCK 0; OUT 1; UNLOCK", "2 2 20 | SET 0 0"};
        for (int cycles = 1; cycles <= 130; cycles++) {
            for (String[] texts : List.of(FIVE, late)) {
                CeilingKernel again = busy(cycles, texts);
                Checks.due("halt()", again.halt(), true);
                Checks.same("a new run behind " + cycles + " cycles", begin(again), begin(Asm.figured(texts)));
            }
        }
        CeilingKernel k = busy(130, late);
        for (int what = 0; what < 7; what++) {
            Checks.due("state(" + what + ") is greater than 0 before halt()", what == 1 || k.state(what) > 0, true);
        }
        k.halt();
        k.start();
        Watch.states(k, "at first", 0, -1, 0, 0, 0, 0, 0);
        Checks.due("worst(0)", k.worst(0), 0);
        Checks.due("worst(1)", k.worst(1), 0);
    }
}
