/** CHECKING with its reasons 1 to 7, and promises 5 and 6: admit and place. */
public final class AdmitTest {
    private AdmitTest() {
    }

    public static void main(String[] args) throws Exception {
        Sentences.test(AdmitTest.class);
    }

    private static void reason(int reason, int place, String... routines) {
        CeilingKernel k = Asm.tasks(Asm.alone(routines));
        String name = String.join(" | ", routines);
        Checks.due("admit() of " + name, k.admit(), reason);
        Checks.due("place() of " + name, k.place(), place);
        Checks.due("figures of " + name, k.wcet(0) >= 0, reason == 0);
        Checks.due("start() of " + name, k.start(), reason == 0);
    }

    private static void sound(String... routines) {
        reason(0, -1, routines);
    }

    @Says("1 routine 0 has no instruction (met at its place 0)")
    private static void reason1() {
        reason(1, 0, "");
        reason(1, 0, "", "SET 0 0", "SET 0 0");
        reason(1, 0, "", "END", "LOCK 0");
        sound("SET 0 0");
        sound("SET 0 0", "", "SET 0 0");
        sound("SET 0 0", "SET 0 0", "");
    }

    @Says("2 an END, and the innermost open bracket is no LOOP or none is open")
    private static void reason2OfAnEnd() {
        reason(2, 0, "END");
        reason(2, 1, "LOCK 0; END; UNLOCK");
        reason(2, 2, "LOOP 2; LOCK 1; END; UNLOCK");
        reason(2, 2, "LOOP 2; END; END");
        reason(2, 4, "LOOP 2; LOOP 2; END; END; END");
        reason(2, 101, "SET 0 0", "SET 0 0; END");
        reason(2, 200, "SET 0 0", "", "END");
        sound("LOOP 2; END");
        sound("LOOP 2; LOCK 1; UNLOCK; END");
        sound("LOCK 1; LOOP 2; END; UNLOCK");
        sound("LOOP 2; LOOP 2; END; END");
    }

    @Says("an UNLOCK, and it is no LOCK or none is open")
    private static void reason2OfAnUnlock() {
        reason(2, 0, "UNLOCK");
        reason(2, 1, "LOOP 2; UNLOCK; END");
        reason(2, 2, "LOCK 1; LOOP 2; UNLOCK; END");
        reason(2, 2, "LOCK 2; UNLOCK; UNLOCK");
        reason(2, 4, "LOCK 2; LOCK 1; UNLOCK; UNLOCK; UNLOCK");
        reason(2, 101, "SET 0 0", "SET 0 0; UNLOCK");
        reason(2, 200, "LOOP 2; END", "", "UNLOCK");
        sound("LOCK 1; UNLOCK");
        sound("LOCK 2; LOCK 1; UNLOCK; UNLOCK");
    }

    @Says("LOOP and LOCK OPEN a bracket, END and UNLOCK CLOSE the innermost open one of their routine (the LOCK or "
            + "LOOP so closed is theirs).")
    private static void bracketsOfOneRoutineAlone() {
        reason(2, 100, "LOCK 1; CALL 1; UNLOCK", "UNLOCK");
        reason(2, 100, "LOOP 1; CALL 1; END", "END");
        reason(7, 1, "LOOP 1", "END");
        sound("LOOP 2; LOCK 1; LOOP 3; LOCK 2; UNLOCK; END; UNLOCK; END");
    }

    @Says("3 a LOOP, and two LOOPs are open already")
    private static void reason3() {
        reason(3, 2, "LOOP 1; LOOP 1; LOOP 1; END; END; END");
        reason(3, 4, "LOOP 1; LOCK 0; LOOP 1; LOCK 1; LOOP 1");
        reason(3, 204, "SET 0 0", "", "LOOP 1; LOOP 1; END; LOOP 1; LOOP 1");
        reason(3, 2, "LOOP 8; LOOP 8; LOOP 8");
        sound("LOOP 1; LOOP 1; END; END");
        sound("LOOP 1; LOOP 1; END; LOOP 1; END; END; LOOP 1; LOOP 1; END; END");
        sound("LOOP 1; END; LOOP 1; END; LOOP 1; END");
        sound("LOOP 1; LOOP 1; CALL 1; END; END", "LOOP 1; LOOP 1; CALL 2; END; END", "LOOP 1; LOOP 1; END; END");
        sound("LOCK 0; LOCK 1; LOCK 2; LOOP 1; LOOP 1; END; END; UNLOCK; UNLOCK; UNLOCK");
    }

    @Says("4 a CALL of a routine whose number is not greater than that of the routine it stands in")
    private static void reason4OfANumber() {
        for (int from = 0; from < 3; from++) {
            for (int called = 0; called < 3; called++) {
                String[] routines = {"SET 0 0", "SET 0 0", "SET 0 0"};
                routines[from] = "SET 0 0; CALL " + called + "; SET 0 0";
                reason(called > from ? 0 : 4, called > from ? -1 : 100 * from + 1, routines);
            }
        }
        sound("CALL 1; CALL 2", "CALL 2", "SET 0 0");
    }

    @Says("or that has no instruction")
    private static void reason4OfAnEmptyRoutine() {
        reason(4, 1, "SET 0 0; CALL 1");
        reason(4, 0, "CALL 2", "SET 0 0");
        reason(4, 0, "CALL 1", "", "SET 0 0");
        reason(4, 100, "SET 0 0", "CALL 2", "");
        sound("CALL 1", "SET 0 0");
        sound("CALL 2", "", "SET 0 0");
        sound("SET 0 0", "CALL 2", "SET 0 0");
    }

    @Says("5 a LOCK of a resource of which a LOCK is open")
    private static void reason5OfALock() {
        for (int r = 0; r < 4; r++) {
            reason(5, 1, "LOCK " + r + "; LOCK " + r + "; UNLOCK; UNLOCK");
            sound("LOCK " + r + "; LOCK " + (r + 1) % 4 + "; UNLOCK; UNLOCK");
            sound("LOCK " + r + "; UNLOCK; LOCK " + r + "; UNLOCK");
        }
        reason(5, 3, "LOCK 1; LOOP 1; LOCK 2; LOCK 1");
        reason(5, 3, "LOCK 1; LOCK 2; UNLOCK; LOCK 1");
        sound("LOCK 1; LOCK 2; UNLOCK; LOCK 2; UNLOCK; UNLOCK");
        sound("LOCK 0; LOCK 1; LOCK 2; LOCK 3; UNLOCK; UNLOCK; UNLOCK; UNLOCK");
    }

    @Says("a CALL of a routine that may lock such a resource (brackets of this routine count alone)")
    private static void reason5OfACall() {
        for (int r = 0; r < 4; r++) {
            reason(5, 1, "LOCK " + r + "; CALL 1; UNLOCK", "LOCK " + r + "; UNLOCK");
            sound("LOCK " + r + "; CALL 1; UNLOCK", "LOCK " + (r + 1) % 4 + "; UNLOCK");
            sound("LOCK " + r + "; UNLOCK; CALL 1; LOCK " + r + "; UNLOCK", "LOCK " + r + "; UNLOCK");
        }
        reason(5, 1, "LOCK 3; CALL 2; UNLOCK", "", "LOCK 0; LOCK 3; UNLOCK; UNLOCK");
        reason(5, 101, "SET 0 0", "LOCK 0; CALL 2; UNLOCK", "LOCK 0; UNLOCK");
        sound("LOCK 3; LOCK 2; UNLOCK; CALL 1; UNLOCK", "LOCK 2; UNLOCK");
        // Resource 3 is held when routine 1 calls, but the LOCK of it does not stand in routine 1.
        reason(5, 1, "LOCK 3; CALL 1; UNLOCK", "CALL 2", "LOCK 3; UNLOCK");
        sound("CALL 1; LOCK 3; UNLOCK", "CALL 2", "LOCK 3; UNLOCK");
    }

    @Says("A routine MAY LOCK a resource if it has a LOCK of it, or a CALL of a routine with a greater number than "
            + "its own that may lock it.")
    private static void mayLock() {
        reason(5, 1, "LOCK 3; CALL 1; UNLOCK", "SET 0 0; CALL 2", "LOCK 3; UNLOCK");
        sound("LOCK 3; CALL 1; UNLOCK", "LOCK 2; UNLOCK", "LOCK 3; UNLOCK");
        // A CALL of its own or a smaller number gives nothing, so that one is met where it stands.
        reason(4, 101, "LOCK 1; CALL 1; UNLOCK; LOCK 2; UNLOCK", "SET 0 0; CALL 1");
        reason(4, 200, "LOCK 1; CALL 2; UNLOCK", "LOCK 1; UNLOCK", "CALL 1");
        reason(4, 200, "LOCK 1; CALL 2; UNLOCK", "SET 0 0", "CALL 0");
    }

    @Says("6 a JZ whose target is a place greater than the number of instructions of the routine")
    private static void reason6OfATarget() {
        for (int size = 1; size <= 12; size++) {
            for (int own = 0; own < size; own++) {
                for (int y = 1; y <= 11; y++) {
                    String jump = Asm.times(own, "SET 0 0") + (own > 0 ? "; " : "") + "JZ 0 " + y + "; ";
                    boolean fits = own + y + 1 <= size;
                    reason(fits ? 0 : 6, fits ? -1 : own, jump + Asm.times(size - own - 1, "SET 0 0"));
                }
            }
        }
        reason(6, 102, "SET 0 0", "SET 0 0; SET 0 0; JZ 1 2; SET 0 0");
        reason(6, 200, "SET 0 0", "", "JZ 0 1");
    }

    @Says("among the instructions between it and its target (both left out), not as many close as open")
    private static void reason6OfWhatIsLeftOpen() {
        reason(6, 0, "JZ 0 1; LOOP 1; END");
        reason(6, 0, "JZ 0 1; LOCK 1; UNLOCK");
        reason(6, 0, "JZ 0 2; LOCK 1; SET 0 0; UNLOCK");
        reason(6, 0, "JZ 0 3; LOCK 1; LOOP 1; END; UNLOCK");
        sound("JZ 3 2; LOOP 1; END");
        sound("JZ 3 2; LOCK 1; UNLOCK");
        sound("JZ 0 4; LOCK 1; LOOP 1; END; UNLOCK");
        sound("JZ 0 4; LOCK 1; UNLOCK; LOOP 1; END");
        // The target itself may open or close.
        sound("LOOP 1; JZ 0 1; SET 0 0; END");
        sound("LOCK 1; JZ 0 3; LOOP 1; SET 0 0; END; UNLOCK");
        sound("JZ 0 1; SET 0 0; LOOP 1; END");
        sound("JZ 0 1; SET 0 0; LOCK 1; UNLOCK");
        sound("JZ 0 2; JZ 0 2; SET 0 0; SET 0 0");
    }

    @Says("or up to some one of them more close than open")
    private static void reason6OfWhatIsClosedBefore() {
        reason(6, 1, "LOOP 1; JZ 0 1; END");
        reason(6, 1, "LOCK 1; JZ 0 1; UNLOCK");
        reason(6, 1, "LOOP 1; JZ 0 3; SET 0 0; END; SET 0 0");
        reason(6, 1, "LOOP 1; JZ 0 2; END; LOOP 1; END");
        reason(6, 1, "LOCK 1; JZ 0 2; UNLOCK; LOCK 1; UNLOCK");
        reason(6, 1, "LOCK 1; JZ 0 4; LOOP 1; END; UNLOCK; LOCK 1; UNLOCK");
        sound("LOCK 1; JZ 0 4; LOOP 1; END; LOCK 2; UNLOCK; UNLOCK");
        // Kinds are not asked for here; what does not match is met later.
        reason(2, 2, "JZ 0 2; LOOP 1; UNLOCK");
        reason(2, 2, "JZ 0 2; LOCK 1; END");
    }

    @Says("7 behind the last instruction (the place is the number of instructions) a bracket is open.")
    private static void reason7() {
        reason(7, 1, "LOCK 3");
        reason(7, 1, "LOOP 1");
        reason(7, 2, "LOOP 1; LOOP 1");
        reason(7, 3, "LOOP 1; LOCK 1; UNLOCK");
        reason(7, 101, "SET 0 0", "LOCK 0");
        reason(7, 202, "SET 0 0", "SET 0 0", "SET 0 0; LOOP 1");
        reason(7, 12, "LOCK 0; " + Asm.times(11, "SET 0 0"));
        reason(7, 12, Asm.times(11, "SET 0 0") + "; LOCK 0");
        reason(7, 112, "SET 0 0", "LOOP 1; " + Asm.times(11, "SET 0 0"));
        sound("LOCK 0; " + Asm.times(10, "SET 0 0") + "; UNLOCK");
        sound("LOOP 1; " + Asm.times(10, "SET 0 0") + "; END");
    }

    @Says("at one place the one named first")
    private static void reason4BeforeReason5() {
        reason(4, 101, "LOCK 0; UNLOCK", "LOCK 0; CALL 0; UNLOCK");
        reason(4, 101, "SET 0 0", "LOCK 0; CALL 1; UNLOCK");
        reason(4, 201, "SET 0 0", "LOCK 0; UNLOCK", "LOCK 0; CALL 1; UNLOCK");
    }

    @Says("The routines 0, 1, 2 of a task are gone through in this order, each from place 0 on")
    private static void theFirstReasonThatIsMet() {
        reason(2, 1, "SET 0 0; END; CALL 0");
        reason(4, 1, "SET 0 0; CALL 0; END");
        reason(5, 1, "LOCK 0; LOCK 0; END");
        reason(3, 2, "LOOP 1; LOOP 1; LOOP 1; CALL 0");
        reason(7, 1, "LOOP 1", "END", "END");
        reason(6, 100, "SET 0 0", "JZ 0 1", "END");
        reason(2, 200, "SET 0 0", "SET 0 0", "END; CALL 0");
        // The end of a routine is before the next one's place 0, and a CALL is before what it calls.
        reason(7, 1, "LOCK 0", "UNLOCK");
        reason(2, 100, "CALL 1", "UNLOCK");
    }

    @Says("the image is SOUND if none of the following is met")
    private static void nothingStaysOpenBehindAReason() {
        String[] unsound = {"LOOP 1; LOOP 1", "LOCK 0; LOCK 1", "LOCK 1; LOOP 1; CALL 0",
                "LOOP 1; LOOP 1; LOCK 1; CALL 1"};
        for (String first : unsound) {
            CeilingKernel k = Asm.tasks(Asm.alone(first, "LOCK 1; UNLOCK"));
            Checks.due("a reason against " + first, k.admit() != 0, true);
            k.wipe(0);
            Asm.put(k, 0, 0, "LOOP 1; LOOP 1; LOCK 1; CALL 1; UNLOCK; END; END");
            Asm.put(k, 0, 1, "LOCK 0; UNLOCK");
            Checks.due("a sound image behind " + first, k.admit(), 0);
            k.wipe(0);
            Asm.put(k, 0, 0, "UNLOCK");
            Checks.due("an UNLOCK of nothing behind " + first, k.admit(), 2);
        }
    }

    @Says({"Checks the images of tasks 0, 1, .. up to the first that is not sound, then works out the figures.",
        "Answers reason + 10 * task for that image (there are no figures then)"})
    private static void reasonsOfLaterTasks() {
        String sound = "5000 5000 0 | LOOP 1; END";
        CeilingKernel k = Asm.figured(sound, sound, sound, sound, sound);
        Asm.put(k, 4, 2, "CALL 0");
        Checks.due("a reason in task 4", k.admit(), 44);
        Checks.due("place()", k.place(), 200);
        Asm.put(k, 2, 1, "SET 0 0; LOOP 1");
        Checks.due("a reason in task 2 is met before", k.admit(), 27);
        Checks.due("place()", k.place(), 102);
        k.wipe(0);
        Checks.due("a reason in task 0 is met before", k.admit(), 1);
        Checks.due("place()", k.place(), 0);
        for (int i = 0; i < 5; i++) {
            Checks.due("wcet(" + i + ")", k.wcet(i), -1);
            Checks.due("blocking(" + i + ")", k.blocking(i), -1);
            Checks.due("response(" + i + ")", k.response(i), -1);
            Checks.due("section(" + i + ", 0)", k.section(i, 0), -1);
        }
        Checks.due("start()", k.start(), false);
    }

    @Says("8 + 10 * task for the first late task")
    private static void lateTasks() {
        CeilingKernel k = Asm.tasks("10 3 0 | SET 0 0", "10 9 0 | SET 0 0", "10 10 0 | SET 0 0");
        // 3; 1 + 2 + 5 = 8; 1 + 2 + 5 + 5 = 13.
        Checks.due("task 2 is late", k.admit(), 28);
        Checks.due("place()", k.place(), -1);
        Asm.put(k, 1, 0, "DIV 0 0");
        Checks.due("task 1 is the first late one", k.admit(), 18);
        Asm.put(k, 0, 0, "SET 0 0");
        Checks.due("task 0 is the first late one", k.admit(), 8);
        k.wipe(2);
        Checks.due("a reason goes before late tasks", k.admit(), 21);
        String fifth = "100 %d 0 | SET 0 0";
        String four = "100 50 0 | SET 0 0";
        Checks.due("task 4 of 23", Asm.tasks(four, four, four, four, String.format(fifth, 23)).admit(), 0);
        Checks.due("task 4 of 22", Asm.tasks(four, four, four, four, String.format(fifth, 22)).admit(), 48);
    }

    @Says("9 if there is no task (there are no figures then)")
    private static void noTask() {
        CeilingKernel k = new CeilingKernel();
        Checks.due("admit()", k.admit(), 9);
        Checks.due("place()", k.place(), -1);
        Checks.due("start()", k.start(), false);
        Checks.due("wcet(0)", k.wcet(0), -1);
        Checks.due("ceiling(0)", k.ceiling(0), -1);
        k.task(10, 10, 0);
        Checks.due("admit() with one", k.admit(), 1);
    }

    @Says("(also those of before are gone, with a reason, too;)")
    private static void figuresOfBeforeAreGone() {
        CeilingKernel k = Asm.figured(Asm.alone("LOCK 0; UNLOCK"));
        Checks.due("wcet(0)", k.wcet(0), 3);
        Asm.put(k, 0, 1, "END");
        Checks.due("admit()", k.admit(), 2);
        Checks.due("wcet(0) behind a reason", k.wcet(0), -1);
        Checks.due("section(0, 0) behind a reason", k.section(0, 0), -1);
        Checks.due("ceiling(0) behind a reason", k.ceiling(0), -1);
        Checks.due("start() behind a reason", k.start(), false);
    }

    @Says("0 otherwise: the set is ADMITTED.")
    private static void admitted() {
        sound("LOOP 8; LOCK 0; UNLOCK; END");
        sound("SET 0 -2147483648; ADD 1 2; DIV 3 3; LOAD 0 7; STORE 0 7; IN 1 1; OUT 3; SEND 1 1; RECEIVE 1 0");
        CeilingKernel k = Asm.figured(Asm.alone("SET 0 0"));
        Checks.due("admit() once more", k.admit(), 0);
        Checks.due("wcet(0)", k.wcet(0), 1);
    }

    @Says("Refused if there is a run.")
    private static void admitInARun() {
        CeilingKernel k = Asm.started(Asm.alone("LOCK 0; UNLOCK"));
        Checks.due("admit() in a run", k.admit(), -1);
        Checks.due("place() behind it", k.place(), -1);
        Checks.due("wcet(0) behind it", k.wcet(0), 3);
        k.halt();
        Checks.due("admit() behind the run", k.admit(), 0);
    }

    @Says("100 * routine + place at which the latest admit() that was not refused met its reason 1 .. 7; -1 if it met "
            + "none, or there was none")
    private static void placeOfTheLatestAdmit() {
        CeilingKernel k = Asm.tasks(Asm.alone("LOCK 0; UNLOCK", "END"));
        Checks.due("place() before an admit()", k.place(), -1);
        Checks.due("admit()", k.admit(), 2);
        Checks.due("place()", k.place(), 100);
        k.wipe(0);
        Checks.due("place() stays behind wipe()", k.place(), 100);
        Asm.put(k, 0, 0, "SET 0 0");
        Checks.due("place() stays behind code()", k.place(), 100);
        k.task(2, 2, 0);
        Checks.due("place() stays behind task()", k.place(), 100);
        Checks.due("admit()", k.admit(), 11);
        Checks.due("place() of an empty image", k.place(), 0);
        Asm.put(k, 1, 0, "SET 0 0");
        Checks.due("admit() with a late task", k.admit(), 18);
        Checks.due("place() of none", k.place(), -1);
    }
}
