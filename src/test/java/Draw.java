import java.util.ArrayList;
import java.util.List;
import java.util.Random;

/** Draws images, with a fixed seed: most of them sound, as op, x, y. */
final class Draw {
    private final Random random;

    Draw(int seed) {
        random = new Random(seed);
    }

    int number(int below) {
        return random.nextInt(below);
    }

    boolean chance(int percent) {
        return number(100) < percent;
    }

    /** Routines 0, 1, 2; in a wild image some of them are junk. */
    List<List<int[]>> image(boolean wild) {
        List<List<int[]>> routines = List.of(new ArrayList<>(), new ArrayList<>(), new ArrayList<>());
        // From routine 2 down: a CALL is drawn when it is known what there is to be called.
        for (int routine = 2; routine >= 0; routine--) {
            List<int[]> steps = routines.get(routine);
            if (wild && chance(15)) {
                junk(steps);
            } else if (routine == 0 ? chance(99) : chance(50)) {
                body(steps, routine, 1 + number(8), 0, new boolean[4]);
                aimCalls(steps, routines);
            }
        }
        return routines;
    }

    private void aimCalls(List<int[]> steps, List<List<int[]>> routines) {
        for (int[] step : steps) {
            if (step[0] == Asm.CALL && routines.get(step[2]).isEmpty() && chance(95)) {
                step[2] = routines.get(2).isEmpty() ? 1 : 2;
                step[0] = routines.get(step[2]) == steps || routines.get(step[2]).isEmpty() ? Asm.STORE : Asm.CALL;
            }
        }
    }

    private void junk(List<int[]> steps) {
        int size = number(8);
        for (int i = 0; i < size; i++) {
            steps.add(new int[] {number(17) - 1, chance(60) ? 0 : number(6) - 1, number(5) - (chance(10) ? 2 : 0)});
        }
    }

    /** Brackets that match, and jumps over whole parts; what it calls may be empty or lock once more. */
    private void body(List<int[]> steps, int routine, int size, int loops, boolean[] held) {
        int end = Math.min(12, steps.size() + size);
        while (steps.size() < end) {
            int room = end - steps.size();
            if (room >= 3 && chance(25) && (loops < 2 || chance(70))) {
                steps.add(new int[] {Asm.LOOP, 0, 1 + number(3)});
                body(steps, routine, number(room - 1), loops + 1, held);
                steps.add(new int[] {Asm.END, 0, 0});
            } else if (room >= 2 && chance(35)) {
                locked(steps, routine, room, loops, held);
            } else if (room >= 3 && chance(15)) {
                int own = steps.size();
                int[] jump = {Asm.JZ, number(4), 1};
                steps.add(jump);
                body(steps, routine, 1 + number(room - 1), loops, held);
                jump[2] = steps.size() - own - 1;
            } else if (routine < 2 && chance(15)) {
                steps.add(new int[] {Asm.CALL, 0, routine + 1 + number(2 - routine)});
            } else {
                steps.add(simple());
            }
        }
    }

    private void locked(List<int[]> steps, int routine, int room, int loops, boolean[] held) {
        int resource = number(4);
        if (held[resource] && !chance(5)) {
            return;
        }
        boolean was = held[resource];
        held[resource] = true;
        steps.add(new int[] {Asm.LOCK, 0, resource});
        body(steps, routine, number(room - 1), loops, held);
        steps.add(new int[] {Asm.UNLOCK, 0, 0});
        held[resource] = was;
    }

    private int[] simple() {
        int[] ops = {Asm.SET, Asm.SET, Asm.ADD, Asm.DIV, Asm.LOAD, Asm.STORE, Asm.IN, Asm.OUT, Asm.SEND, Asm.RECEIVE};
        int op = ops[number(ops.length)];
        int y = switch (op) {
            case Asm.SET -> chance(20) ? random.nextInt() : number(5) - 2;
            case Asm.ADD, Asm.DIV -> number(4);
            case Asm.LOAD, Asm.STORE -> number(3);
            case Asm.OUT -> 0;
            default -> number(2);
        };
        return new int[] {op, number(4), y};
    }
}
