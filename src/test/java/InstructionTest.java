import java.util.Arrays;

/** Each instruction: the x and y that are as said for it (promise 3), what it does in a run, and its cycles. */
public final class InstructionTest {
    private static final int LEAST = Integer.MIN_VALUE;
    private static final int GREATEST = Integer.MAX_VALUE;
    private static final int[] TRIED = {LEAST, -2, -1, 0, 1, 2, 3, 4, 5, 6, 7, 8, 9, 10, 11, 12, 13, GREATEST};

    private InstructionTest() {
    }

    public static void main(String[] args) throws Exception {
        Sentences.test(InstructionTest.class);
    }

    /** On a new object, so that what was refused is seen to have left the routine empty. */
    static void code(int op, int x, int y, boolean want) {
        CeilingKernel k = new CeilingKernel();
        k.task(10, 10, 0);
        String call = "code(0, 0, " + op + ", " + x + ", " + y + ")";
        Checks.due(call, k.code(0, 0, op, x, y), want);
        Checks.due("an instruction is there behind " + call, k.admit() != 1, want);
    }

    /** Every x and y around the edges, on both sides. */
    private static void ranges(int op, int xMost, int yLeast, int yMost) {
        for (int x : TRIED) {
            for (int y : TRIED) {
                code(op, x, y, x >= 0 && x <= xMost && y >= yLeast && y <= yMost);
            }
        }
    }

    /** The job is alone: it ends 2 cycles of the switch and those of its instructions after 0. */
    private static void cost(int cycles, String lines) {
        CeilingKernel k = Asm.ran(2 + cycles - 1, lines);
        Checks.due("not yet: " + lines, k.job(0, 1), 2 + cycles - 1);
        k.run(1);
        Checks.due("ended: " + lines, k.job(0, 1), -1);
        Watch.entry(k, 0, Watch.DONE, 0, 2 + cycles, 2 + cycles);
    }

    private static void outs(String lines, Integer... want) {
        Watch.outs(Asm.ran(500, lines), lines, want);
    }

    @Says("0 SET, 1: rx becomes y (any int)")
    private static void set() {
        ranges(Asm.SET, 3, LEAST, GREATEST);
        cost(1, "SET 0 1");
        outs("SET 0 -2147483648; SET 3 2147483647; OUT 0; OUT 1; OUT 2; OUT 3", LEAST, 0, 0, GREATEST);
    }

    @Says("1 ADD, 1: rx becomes rx + ry, which wraps (y 0 .. 3)")
    private static void add() {
        ranges(Asm.ADD, 3, 0, 3);
        cost(1, "ADD 0 1");
        int[][] sums = {
            {GREATEST - 1, 1, GREATEST}, {GREATEST, 1, LEAST}, {LEAST + 1, -1, LEAST}, {LEAST, -1, GREATEST},
            {GREATEST, GREATEST, -2}, {LEAST, LEAST, 0}, {GREATEST, LEAST, -1}, {LEAST, 0, LEAST},
            {0, GREATEST, GREATEST}};
        for (int[] s : sums) {
            outs("SET 0 " + s[0] + "; SET 3 " + s[1] + "; ADD 0 3; OUT 0; OUT 3", s[2], s[1]);
            outs("SET 3 " + s[0] + "; SET 0 " + s[1] + "; ADD 3 0; OUT 3; OUT 0", s[2], s[1]);
        }
        outs("SET 3 2147483647; ADD 3 3; OUT 3", -2);
        outs("SET 0 -2147483648; ADD 0 0; OUT 0", 0);
    }

    @Says({"2 DIV, 4: rx becomes rx / ry, rounded towards 0 (the least int by -1 is the least int)", "(y 0 .. 3)"})
    private static void div() {
        ranges(Asm.DIV, 3, 0, 3);
        cost(1 + 4, "SET 1 1; DIV 0 1");
        int[][] quotients = {
            {7, 2, 3}, {-7, 2, -3}, {7, -2, -3}, {-7, -2, 3}, {1, 2, 0}, {-1, 2, 0}, {1, -2, 0}, {-1, -2, 0}, {0, 9, 0},
            {LEAST, -1, LEAST}, {LEAST + 1, -1, GREATEST}, {LEAST, 1, LEAST}, {LEAST, -2, 1073741824},
            {GREATEST, -1, -GREATEST}, {LEAST, LEAST, 1}, {GREATEST, LEAST, 0}, {LEAST, GREATEST, -1}};
        for (int[] q : quotients) {
            outs("SET 0 " + q[0] + "; SET 3 " + q[1] + "; DIV 0 3; OUT 0; OUT 3", q[2], q[1]);
            outs("SET 3 " + q[0] + "; SET 0 " + q[1] + "; DIV 3 0; OUT 3; OUT 0", q[2], q[1]);
        }
        outs("SET 3 9; DIV 3 3; OUT 3", 1);
    }

    @Says("if ry is 0, the job TRAPS")
    private static void divByZeroAlone() {
        for (int number : new int[] {0, 1, -1, LEAST, GREATEST}) {
            for (int by : new int[] {0, 1, -1, LEAST, GREATEST}) {
                CeilingKernel k = Asm.ran(8, "SET 1 " + number + "; SET 2 " + by + "; DIV 1 2");
                Watch.entry(k, 0, by == 0 ? Watch.TRAP : Watch.DONE, 0, 8, 8);
            }
        }
        Watch.entry(Asm.ran(6, "DIV 3 3"), 0, Watch.TRAP, 0, 6, 6);
        CeilingKernel k = Asm.started(Asm.alone("SET 0 3; DIV 0 1; OUT 0"));
        Checks.due("before the trap", k.run(6), 0);
        Checks.due("the trap", k.run(1), 1);
        Checks.due("nothing comes behind it", k.run(100), 0);
        k = Asm.ran(100, "CALL 2; OUT 0", "", "LOOP 2; DIV 0 0; END");
        Checks.due("a trap in a routine that was called ends the job", k.state(3), 1);
        Watch.entry(k, 0, Watch.TRAP, 0, 2 + 2 + 1 + 4, 9);
    }

    @Says("3 LOAD, 2: rx becomes word y (y 0 .. 7)")
    private static void load() {
        ranges(Asm.LOAD, 3, 0, 7);
        cost(2, "LOAD 0 1");
        outs("SET 1 5; SET 2 6; STORE 1 0; STORE 2 7; LOAD 0 7; OUT 0; LOAD 3 0; OUT 3; LOAD 3 1; OUT 3; LOAD 3 6; "
                + "OUT 3",
                6, 5, 0, 0);
    }

    @Says("4 STORE, 2: word y becomes rx (y 0 .. 7)")
    private static void store() {
        ranges(Asm.STORE, 3, 0, 7);
        cost(2, "STORE 0 1");
        CeilingKernel k = Asm.started(Asm.alone("SET 0 5; SET 3 6; STORE 0 0; STORE 3 7"));
        k.run(5);
        Checks.due("word(0, 0) in the first cycle of STORE", k.word(0, 0), 0);
        k.run(1);
        Checks.due("word(0, 0) behind the second", k.word(0, 0), 5);
        k.run(2);
        int[] words = {5, 0, 0, 0, 0, 0, 0, 6};
        for (int i = 0; i < 8; i++) {
            Checks.due("word(0, " + i + ")", k.word(0, i), words[i]);
        }
    }

    @Says("5 JZ, 2: if rx is 0, the job goes on at the TARGET, which is the place y + 1 places on from its own, else "
            + "behind it")
    private static void jzOfZeroAlone() {
        cost(2, "JZ 0 1; SET 0 0");
        cost(1 + 2 + 1, "SET 0 5; JZ 0 1; SET 0 0");
        outs("SET 0 7; SET 3 0; JZ 3 1; OUT 3; OUT 0", 7);
        for (int number : new int[] {1, -1, 256, 65536, LEAST, GREATEST}) {
            outs("SET 3 " + number + "; JZ 3 1; OUT 3; OUT 0", number, 0);
            outs("SET 0 " + number + "; JZ 0 1; OUT 0; OUT 3", number, 0);
        }
        // The second jump leads beyond the target of the first.
        outs("SET 1 1; JZ 1 3; OUT 1; JZ 0 2; OUT 1; OUT 1; SET 2 7; OUT 2", 1, 7);
        outs("SET 1 1; LOOP 3; JZ 1 1; OUT 1; SET 1 0; END; OUT 2", 1, 0);
        outs("LOOP 3; SET 2 3; OUT 2; JZ 0 1; OUT 0; END", 3, 3, 3);
    }

    @Says("(y 1 .. 11)")
    private static void jzOverOneAndOverEleven() {
        ranges(Asm.JZ, 3, 1, 11);
        outs("JZ 0 1; OUT 1; SET 1 1; OUT 1", 1);
        outs("OUT 0; JZ 3 2; OUT 0; OUT 0", 0);
        CeilingKernel k = Asm.ran(4, "JZ 0 11; " + Asm.times(11, "OUT 0"));
        Watch.entry(k, 0, Watch.DONE, 0, 4, 4);
        Checks.due("no OUT", k.state(3), 1);
        k = Asm.ran(18, "SET 0 5; CALL 1", "JZ 0 11; " + Asm.times(11, "OUT 0"));
        Watch.outs(k, "eleven are not left out", 5, 5, 5, 5, 5, 5, 5, 5, 5, 5, 5);
        Watch.entry(k, 0, Watch.DONE, 0, 18, 18);
        k = Asm.ran(100, "CALL 1; SET 1 5; OUT 1", "JZ 1 11; " + Asm.times(11, "OUT 1"));
        Watch.outs(k, "behind the last of a routine that was called", 5);
    }

    @Says("6 LOOP, 1: what stands between it and its END is done y times (y 1 .. 8)")
    private static void loop() {
        ranges(Asm.LOOP, 0, 1, 8);
        for (int rounds = 1; rounds <= 8; rounds++) {
            outs("SET 1 1; LOOP " + rounds + "; ADD 0 1; END; OUT 0", rounds);
        }
        outs("SET 1 1; LOOP 8; LOOP 8; ADD 0 1; END; END; OUT 0", 64);
        outs("SET 1 1; LOOP 3; LOOP 4; ADD 0 1; END; LOOP 2; ADD 2 1; END; END; OUT 0; OUT 2", 12, 6);
        CeilingKernel k = Asm.ran(500, "SET 1 1; LOOP 2; CALL 1; CALL 2; END; OUT 0; OUT 3",
                "LOOP 5; ADD 0 1; CALL 2; END", "LOOP 3; ADD 3 1; END");
        Watch.outs(k, "loops in calls in loops", 10, 36);
    }

    @Says("7 END, 1 (met each time)")
    private static void end() {
        ranges(Asm.END, 0, 0, 0);
        cost(1 + 1, "LOOP 1; END");
        cost(1 + 8, "LOOP 8; END");
        cost(1 + 8 * (1 + 8 + 1), "LOOP 8; LOOP 8; END; END");
        Watch.job(Asm.started(Asm.alone("LOOP 8; END")), 0, 2, 0, 0, 1, 2, 3, 4, 5, 6, 7, 8, -1);
    }

    @Says("8 LOCK, 2: takes resource y (y 0 .. 3)")
    private static void lock() {
        ranges(Asm.LOCK, 0, 0, 3);
        for (int r = 0; r < 4; r++) {
            Watch.job(Asm.started(Asm.alone("LOCK " + r + "; SET 0 0; UNLOCK; SET 0 0")), 0, 3, 0, 0, 0, 1 << r,
                    1 << r, 0, -1);
        }
    }

    @Says("9 UNLOCK, 1: gives back the resource of its LOCK")
    private static void unlock() {
        ranges(Asm.UNLOCK, 0, 0, 0);
        cost(2 + 1, "LOCK 1; UNLOCK");
        CeilingKernel k = Asm.started(Asm.alone("LOCK 2; CALL 1; UNLOCK; SET 0 0", "LOCK 0; LOCK 3; UNLOCK; UNLOCK"));
        Watch.job(k, 0, 3, 0, 0, 0, 4, 4, 4, 4, 5, 5, 13, 5, 4, 0, -1);
        cost(2 + 2 + 1 + 2 + 1, "LOCK 1; JZ 0 2; LOCK 2; UNLOCK; UNLOCK; LOCK 1; UNLOCK");
    }

    @Says("10 CALL, 2: routine y is done from its place 0 on, then the job goes on behind the CALL (y 0 .. 2)")
    private static void call() {
        ranges(Asm.CALL, 0, 0, 2);
        CeilingKernel k = Asm.ran(500, "SET 1 1; CALL 1; OUT 1; CALL 2", "ADD 1 1; CALL 2; ADD 1 1; CALL 2", "OUT 1");
        Watch.outs(k, "calls of 1 and 2, and of 2 from 1", 2, 4, 4, 4);
        int end = 2 + 1 + 2 + 1 + 3 + 1 + 3 + 1 + 3;
        Watch.entry(k, 1, Watch.OUT, 0, end, 4);
        Watch.entry(k, 0, Watch.DONE, 0, end, end);
        // From place 0 on each time, up to the last of twelve.
        k = Asm.ran(500, "CALL 2; CALL 2", "", "OUT 1; " + Asm.times(10, "SET 1 3") + "; OUT 1");
        Watch.outs(k, "a routine of twelve", 0, 3, 3, 3);
    }

    @Says("11 IN, 1: rx becomes port y (y 0, 1)")
    private static void in() {
        ranges(Asm.IN, 3, 0, 1);
        cost(1, "IN 0 1");
        CeilingKernel k = Asm.started(Asm.alone("IN 0 0; OUT 0; IN 3 1; OUT 3; IN 3 0; OUT 3"));
        k.input(1, 8);
        k.run(4);
        k.input(0, LEAST);
        k.input(0, 6);
        k.run(100);
        Watch.outs(k, "the value at the time of IN", 0, 8, 6);
    }

    @Says("12 OUT, 1: an entry OUT with rx is made")
    private static void out() {
        ranges(Asm.OUT, 3, 0, 0);
        cost(1, "OUT 0");
        outs("SET 0 1; SET 1 2; SET 2 3; SET 3 4; OUT 3; OUT 2; OUT 1; OUT 0", 4, 3, 2, 1);
    }

    @Says({"13 SEND, 2: if mailbox y holds fewer than 3 numbers, rx goes in behind them and then r0 becomes 1; else "
            + "r0 becomes 0",
        "(y 0, 1)"})
    private static void send() {
        ranges(Asm.SEND, 3, 0, 1);
        cost(2, "SEND 0 1");
        outs("SET 1 5; SEND 1 0; OUT 0; SEND 1 0; OUT 0; SEND 1 0; OUT 0; SEND 1 0; OUT 0; SEND 1 1; OUT 0", 1, 1, 1,
                0, 1);
        // r0 goes in as it was before it becomes 1.
        outs("SET 0 7; SEND 0 1; RECEIVE 3 1; OUT 3; OUT 0", 7, 1);
        // What found no room is not there behind the others either.
        outs("LOOP 3; SEND 1 1; END; SET 3 9; SEND 3 1; OUT 0; LOOP 4; SET 2 5; RECEIVE 2 1; OUT 2; END", 0, 0, 0, 0,
                5);
        // One comes out, one goes in behind the two that are left, and there is no room again.
        outs("LOOP 3; ADD 1 0; SEND 1 0; END; RECEIVE 3 0; SEND 3 0; SEND 3 0; OUT 0; LOOP 3; RECEIVE 2 0; OUT 2; "
                + "END", 0, 1, 2, 0);
    }

    @Says({"14 RECEIVE, 2: if mailbox y holds a number, rx becomes the one that is there longest, it is taken out, "
            + "and then r0 becomes 1; else r0 becomes 0",
        "(y 0, 1)"})
    private static void receive() {
        ranges(Asm.RECEIVE, 3, 0, 1);
        cost(2, "RECEIVE 0 1");
        outs("SET 3 9; SET 0 5; RECEIVE 3 1; OUT 3; OUT 0", 9, 0);
        outs("SET 0 7; SEND 0 0; RECEIVE 0 0; OUT 0; RECEIVE 0 0; OUT 0", 1, 0);
        outs("SET 1 11; SEND 1 0; ADD 1 1; SEND 1 0; RECEIVE 2 0; OUT 2; RECEIVE 2 0; OUT 2; RECEIVE 2 0; OUT 2; OUT 0",
                11, 22, 22, 0);
        outs("SET 1 4; SEND 1 1; RECEIVE 2 0; OUT 0; OUT 2; RECEIVE 2 1; OUT 0; OUT 2", 0, 0, 1, 4);
        CeilingKernel k = Asm.started("100 100 0 | SET 1 5; SEND 1 0; SEND 1 0", "100 100 0 | RECEIVE 2 0; OUT 2");
        k.run(50);
        Watch.outs(k, "from one task to another", 5);
    }

    @Says({"Where rx is named, x is 0 .. 3, else x is 0; y is as said, 0 where it is not named.",
            "or x or y is not as said for it"})
    private static void registersOfEveryInstruction() {
        int[] named = {Asm.SET, Asm.ADD, Asm.DIV, Asm.LOAD, Asm.STORE, Asm.JZ, Asm.IN, Asm.OUT, Asm.SEND, Asm.RECEIVE};
        for (int op : named) {
            int y = op == Asm.JZ ? 1 : 0;
            for (int x : new int[] {-1, 0, 3, 4}) {
                code(op, x, y, x == 0 || x == 3);
            }
        }
        int[] unnamed = {Asm.LOOP, Asm.END, Asm.LOCK, Asm.UNLOCK, Asm.CALL};
        for (int op : unnamed) {
            int y = op == Asm.LOOP ? 1 : 0;
            for (int x : new int[] {-1, 0, 1}) {
                code(op, x, y, x == 0);
            }
        }
        for (int op : new int[] {Asm.END, Asm.UNLOCK, Asm.OUT}) {
            for (int y : new int[] {-1, 0, 1}) {
                code(op, 0, y, y == 0);
            }
        }
    }

    /** Registers hold 11 to 14, ports 55 and 66 when it is done; then it is seen what there is of all. */
    private static void only(String before, String line, String after, Integer... registers) {
        String sets = "SET 0 11; SET 1 12; SET 2 13; SET 3 14; ";
        CeilingKernel k = Asm.started("900 900 0 | " + before + sets + line + "; OUT 0; OUT 1; OUT 2; OUT 3" + after
                + " | SET 0 11",
                "900 900 0 | RECEIVE 1 0; OUT 0; RECEIVE 1 1; OUT 0; IN 1 0; OUT 1; IN 1 1; OUT 1");
        k.input(0, 55);
        k.input(1, 66);
        int done = (before.isEmpty() ? 4 : 5) + 1;
        for (int cycle = 0; cycle < 20 && k.job(0, 2) < done; cycle++) {
            k.run(1);
        }
        Checks.due("resources behind " + line, k.job(0, 3), line.equals("LOCK 2") ? 4 : 0);
        Checks.due("active number behind " + line, k.job(0, 0), 0);
        for (int i = 0; i < 8; i++) {
            Checks.due("word(0, " + i + ") behind " + line, k.word(0, i), line.equals("STORE 2 1") && i == 1 ? 13 : 0);
            Checks.due("word(1, " + i + ") behind " + line, k.word(1, i), 0);
        }
        Checks.due("entries behind " + line, k.state(3), line.equals("OUT 2") ? 1 : 0);
        k.run(100);
        Integer[] want = Arrays.copyOf(registers, registers.length + 4);
        want[registers.length] = line.equals("SEND 2 0") ? 1 : 0;
        want[registers.length + 1] = line.equals("SEND 2 1") ? 1 : 0;
        want[registers.length + 2] = 55;
        want[registers.length + 3] = 66;
        Watch.outs(k, line, want);
    }

    @Says("with the cycles that one costs")
    private static void nothingElseChanges() {
        only("", "SET 2 9", "", 11, 12, 9, 14);
        only("", "ADD 2 1", "", 11, 12, 25, 14);
        only("", "DIV 3 2", "", 11, 12, 13, 1);
        only("", "LOAD 2 1", "", 11, 12, 0, 14);
        only("", "STORE 2 1", "", 11, 12, 13, 14);
        only("", "JZ 2 1", "", 11, 12, 13, 14);
        only("", "LOOP 1", "; END", 11, 12, 13, 14);
        only("LOOP 1; ", "END", "", 11, 12, 13, 14);
        only("", "LOCK 2", "; UNLOCK", 11, 12, 13, 14);
        only("LOCK 2; ", "UNLOCK", "", 11, 12, 13, 14);
        only("", "CALL 1", "", 11, 12, 13, 14);
        only("", "IN 2 1", "", 11, 12, 66, 14);
        only("", "OUT 2", "", 13, 11, 12, 13, 14);
        only("", "SEND 2 0", "", 1, 12, 13, 14);
        only("", "SEND 2 1", "", 1, 12, 13, 14);
        only("", "RECEIVE 2 1", "", 0, 12, 13, 14);
    }

    @Says("2 instructions of it that were done")
    private static void instructionsDone() {
        // LOOP, CALL (2), SET, END, CALL (2), SET, END, JZ (2), LOAD (2): what JZ leaves out does not count.
        CeilingKernel k = Asm.started(Asm.alone("LOOP 2; CALL 1; END; JZ 0 1; SET 0 0; LOAD 0 0", "SET 1 1"));
        Watch.job(k, 0, 2, 0, 0, 1, 1, 2, 3, 4, 4, 5, 6, 7, 7, 8, 8, -1);
    }
}
