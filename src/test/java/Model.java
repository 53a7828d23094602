import java.util.ArrayList;
import java.util.Arrays;
import java.util.List;

/** The whole bench once more, as plainly as the document tells it; AgainstModelTest compares. */
final class Model {
    final int[] registers = new int[8];
    final int[] memory = new int[64];
    int[] sets = new int[20];
    int nextSet;
    int runs;
    int x = 1;
    ModelProgram program = new ModelProgram("");
    ModelLaw law = new ModelLaw("");
    private String tape = "";
    private ModelRun last;
    private final List<List<Integer>> rows = List.of(new ArrayList<>(), new ArrayList<>());
    private int misplaced;
    private int[][] kept;

    Model() {
        Arrays.fill(sets, -1);
    }

    boolean register(int r, int v) {
        boolean fits = r >= 0 && r < 8;
        if (fits) {
            registers[r] = v;
        }
        return fits;
    }

    boolean poke(int at, int v) {
        boolean fits = at >= 0 && at < 64 && v >= 0 && v < 256;
        if (fits) {
            memory[at] = v;
        }
        return fits;
    }

    int feed(int... fed) {
        if (tape.length() > 240) {
            return -1;
        }
        StringBuilder more = new StringBuilder(tape);
        for (int four : fed) {
            for (byte one : java.nio.ByteBuffer.allocate(4).putInt(four).array()) {
                more.append((char) (one & 255));
            }
        }
        tape = more.toString();
        return tape.length();
    }

    int law(int n) {
        if (n < 1 || n > 240 || n > tape.length()) {
            return -1;
        }
        int answer = ModelLaw.answer(tape.substring(0, n));
        if (answer > 0) {
            law = new ModelLaw(tape.substring(0, n));
        }
        tape = "";
        return answer;
    }

    int program(int n) {
        if (n < 1 || n > 240 || n > tape.length()) {
            return -1;
        }
        int answer = ModelProgram.answer(tape.substring(0, n));
        if (answer > 0) {
            program = new ModelProgram(tape.substring(0, n));
            Arrays.fill(sets, -1);
            nextSet = 0;
            last = null;
            rows.forEach(List::clear);
            if (kept != null) {
                kept[2] = null;
            }
        }
        tape = "";
        return answer;
    }

    private boolean idle(int wide) {
        return wide < 1 || wide > 4 || program.lines.isEmpty();
    }

    int run(int wide) {
        if (idle(wide)) {
            return -1;
        }
        ModelRun run = new ModelRun(this).go(wide, false);
        x = run.x;
        if (run.ended) {
            System.arraycopy(run.left, 0, registers, 0, 8);
            System.arraycopy(run.memory, 0, memory, 0, 64);
            sets = run.sets;
            nextSet = run.nextSet;
            runs++;
            last = run;
        }
        return run.totals[0];
    }

    int tried(int wide, int what) {
        boolean total = what >= 0 && what <= 5;
        boolean register = what >= 10 && what <= 17;
        boolean at = what >= 100 && what <= 163;
        if (idle(wide) || !(total || register || at)) {
            return -1;
        }
        ModelRun run = new ModelRun(this).go(wide, false);
        if (register) {
            return run.left[what - 10];
        }
        return at ? run.memory[what - 100] : run.totals[what];
    }

    int lastRun(int what) {
        return what < 0 || what > 5 ? -1 : last == null ? -2 : last.totals[what];
    }

    int opIs(int op, int what) {
        if (op < 0 || op >= program.lines.size() || what < 0 || (what >= 6 && what <= 9)) {
            return -100000;
        }
        ModelProgram.Line line = program.lines.get(op);
        if (what >= 10 && (line.sign != 'L' || what - 10 >= line.size)) {
            return -4;
        }
        if (what == 0) {
            return line.kind();
        }
        if (what == 1) {
            return sets[op] < 0 ? -2 : sets[op];
        }
        if (last == null || (what == 5 && line.size == 0)) {
            return -2;
        }
        ModelRun.Op of = last.ops.get(op);
        if (what >= 10) {
            return of.givers[what - 10] == null ? -2 : of.givers[what - 10].number;
        }
        return List.of(of.doneAt, of.replays, of.value, of.place).get(what - 2);
    }

    int source(int op, int r) {
        if (op < 0 || op >= program.lines.size() || r < 0 || r > 7) {
            return -1;
        }
        int found = -2;
        for (int i = 0; i < op && program.lines.get(op).reads().contains(r); i++) {
            found = program.lines.get(i).gives == r ? i : found;
        }
        return found;
    }

    int now(int what) {
        return what >= 0 && what <= 7 ? registers[what]
            : what >= 100 && what <= 163 ? memory[what - 100] : -100000;
    }

    /** In order: register by register, byte by byte; the twos are counted on the way. */
    private int inOrder(int[] left, int[] bytes) {
        int twos = 0;
        List<List<Integer>> stored = new ArrayList<>();
        for (ModelProgram.Line line : program.lines) {
            int place = Math.floorMod((line.base < 0 ? 0 : left[line.base]) + line.number, 64);
            List<Integer> covered = new ArrayList<>();
            for (int i = 0; i < line.size; i++) {
                covered.add((place + i) % 64);
            }
            if (line.sign == 'S') {
                for (int i = 0; i < line.size; i++) {
                    bytes[covered.get(i)] = left[line.stored] >> (8 * i) & 255;
                }
                stored.add(covered);
            } else if (line.sign == 'L') {
                twos += (int) stored.stream().filter(s -> s.stream().anyMatch(covered::contains)).count();
                int value = 0;
                for (int i = line.size - 1; i >= 0; i--) {
                    value = value * 256 + bytes[covered.get(i)];
                }
                left[line.gives] = value;
            } else {
                left[line.gives] = line.reckon(line.second < 0 ? 0 : left[line.second],
                    line.third < 0 ? 0 : left[line.third]);
            }
        }
        return twos;
    }

    int plain(int what) {
        int[] left = registers.clone();
        int[] bytes = memory.clone();
        inOrder(left, bytes);
        return what >= 0 && what <= 7 ? left[what] : what >= 100 && what <= 163 ? bytes[what - 100] : -100000;
    }

    int unlike(int wide) {
        if (idle(wide)) {
            return -1;
        }
        ModelRun run = new ModelRun(this).go(wide, false);
        int differ = 0;
        for (int what = 0; what < 164; what++) {
            differ += what < 8 && run.left[what] != plain(what) ? 1 : 0;
            differ += what >= 100 && run.memory[what - 100] != plain(what) ? 1 : 0;
        }
        return run.ended ? differ : -5;
    }

    int fastest(int what) {
        if (what < 0 || what > 1 || program.lines.isEmpty()) {
            return -1;
        }
        int best = 1;
        for (int wide = 2; wide <= 4; wide++) {
            best = tried(wide, 0) < tried(best, 0) ? wide : best;
        }
        return what == 0 ? best : tried(best, 0);
    }

    int cautious(int wide, int what) {
        return idle(wide) || what < 0 || what > 5 ? -1 : new ModelRun(this).go(wide, true).totals[what];
    }

    int worst(int what) {
        if (what < 0 || what > 1) {
            return -1;
        }
        if (last == null) {
            return -2;
        }
        int most = last.ops.stream().mapToInt(op -> op.replays).max().getAsInt();
        return what == 1 ? most : last.ops.stream().filter(op -> op.replays == most).findFirst().get().number;
    }

    int deep() {
        int deepest = 0;
        for (int op = 0; op < program.lines.size(); op++) {
            deepest = Math.max(deepest, chain(op));
        }
        return deepest;
    }

    private int chain(int op) {
        int longest = 1;
        for (int r : program.lines.get(op).reads()) {
            longest = source(op, r) < 0 ? longest : Math.max(longest, 1 + chain(source(op, r)));
        }
        return longest;
    }

    int mix() {
        return inOrder(registers.clone(), memory.clone());
    }

    int watch(int row, int op) {
        if (row < 0 || row > 1) {
            return -1;
        }
        if (rows.get(row).size() == 8) {
            return -3;
        }
        if (op < 0 || op >= program.lines.size()) {
            return -1;
        }
        if (program.lines.get(op).sign != "LS".charAt(row)) {
            misplaced++;
            return -7;
        }
        rows.get(row).add(op);
        return rows.get(row).size();
    }

    int watched(int row, int i, int what) {
        if (row < 0 || row > 1 || i < 0 || what < 0 || what > 6) {
            return -100000;
        }
        if (i >= rows.get(row).size()) {
            return -4;
        }
        return what == 6 ? rows.get(row).get(i) : opIs(rows.get(row).get(i), what);
    }

    int forget() {
        int had = count(8);
        Arrays.fill(sets, -1);
        return had;
    }

    boolean seed(int seed) {
        boolean fits = seed >= 0 && seed <= 65535;
        x = fits ? seed : x;
        return fits;
    }

    int keep() {
        kept = new int[][] {registers.clone(), memory.clone(), sets.clone(), {nextSet, runs, x}};
        return runs;
    }

    boolean undo() {
        if (kept == null) {
            return false;
        }
        System.arraycopy(kept[0], 0, registers, 0, 8);
        System.arraycopy(kept[1], 0, memory, 0, 64);
        if (kept[2] != null) {
            sets = kept[2].clone();
            nextSet = kept[3][0];
        }
        runs = kept[3][1];
        x = kept[3][2];
        return true;
    }

    int check(int n) {
        if (n < 0 || n > 64 || n > tape.length()) {
            return -2;
        }
        String asked = tape.substring(0, n);
        tape = "";
        for (int i = 0; i < n; i++) {
            if (asked.charAt(i) != memory[i]) {
                return i;
            }
        }
        return -1;
    }

    int count(int what) {
        List<Integer> all = new ArrayList<>(List.of(runs, program.lines.size()));
        all.add((int) program.lines.stream().filter(line -> line.sign == 'L').count());
        all.add((int) program.lines.stream().filter(line -> line.sign == 'S').count());
        all.addAll(List.of(law.rules.size(), tape.length(), x, misplaced));
        all.add((int) Arrays.stream(sets).filter(set -> set >= 0).count());
        all.addAll(List.of(nextSet, rows.get(0).size() + rows.get(1).size()));
        all.add((int) Arrays.stream(memory).filter(one -> one != 0).count());
        return what < 0 || what >= all.size() ? -1 : all.get(what);
    }
}
