import java.util.ArrayList;
import java.util.List;
import java.util.TreeSet;

/** A RUN once more, written apart from the class: ops are objects, memory is remembered whole. */
final class ModelRun {
    enum Stage { WAITING, OFF, DONE }

    final class Op {
        final int number;
        final ModelProgram.Line line;
        final List<Op> sources = new ArrayList<>();
        Stage stage = Stage.WAITING;
        int until;
        int doneAt;
        int replays;
        int value;
        int place;
        Op[] givers = new Op[4];
        int[] whole;

        Op(int number, ModelProgram.Line line) {
            this.number = number;
            this.line = line;
            for (int r : line.reads()) {
                Op found = null;
                for (Op earlier : ops) {
                    if (earlier.line.gives == r) {
                        found = earlier;
                    }
                }
                if (found != null) {
                    sources.add(found);
                }
            }
        }

        boolean store() {
            return line.sign == 'S';
        }

        boolean load() {
            return line.sign == 'L';
        }

        boolean covers(int at) {
            for (int i = 0; i < line.size; i++) {
                if ((place + i) % 64 == at) {
                    return true;
                }
            }
            return false;
        }

        int byteAt(int at) {
            for (int i = 0; i < line.size; i++) {
                if ((place + i) % 64 == at) {
                    return value >> (8 * i) & 255;
                }
            }
            throw new IllegalStateException();
        }

        int read(int r) {
            Op found = null;
            for (Op earlier : ops) {
                if (earlier.number < number && earlier.line.gives == r) {
                    found = earlier;
                }
            }
            return found == null ? registers[r] : found.value;
        }
    }

    final List<Op> ops = new ArrayList<>();
    final int[] registers;
    final int[] begun;
    int[] memory;
    final int[] left;
    final int[] sets;
    final ModelLaw law;
    final int runs;
    int nextSet;
    int x;
    final int[] totals = new int[6];
    boolean ended;
    private int cycle;

    ModelRun(Model model) {
        registers = model.registers.clone();
        begun = model.memory.clone();
        memory = begun.clone();
        left = registers.clone();
        sets = model.sets.clone();
        nextSet = model.nextSet;
        runs = model.runs;
        x = model.x;
        law = model.law;
        for (ModelProgram.Line line : model.program.lines) {
            ops.add(new Op(ops.size(), line));
        }
    }

    ModelRun go(int wide, boolean cautious) {
        for (cycle = 0; cycle <= 2000 && !ended; cycle++) {
            for (Op op : ops) {
                if (op.stage == Stage.OFF && op.until == cycle) {
                    finish(op);
                }
            }
            sendOff(wide, cautious);
            retire();
            ended = ops.stream().allMatch(op -> op.stage == Stage.DONE && (!op.store() || op.whole != null));
        }
        totals[0] = ended ? cycle : -5;
        if (ended) {
            for (Op op : ops) {
                if (op.line.gives >= 0) {
                    left[op.line.gives] = op.value;
                }
            }
        }
        return this;
    }

    private void finish(Op op) {
        op.stage = Stage.DONE;
        op.doneAt = cycle;
        if (op.load() || op.store()) {
            int base = op.line.base < 0 ? 0 : op.read(op.line.base);
            op.place = Math.floorMod(base + op.line.number, 64);
        }
        if (op.load()) {
            op.value = 0;
            for (int i = op.line.size - 1; i >= 0; i--) {
                int at = (op.place + i) % 64;
                op.givers[i] = null;
                for (Op store : ops) {
                    if (store.number < op.number && store.store() && store.stage == Stage.DONE && store.covers(at)) {
                        op.givers[i] = store;
                    }
                }
                op.value = op.value << 8 | (op.givers[i] == null ? begun[at] : op.givers[i].byteAt(at));
            }
        } else if (op.store()) {
            op.value = ModelProgram.low(op.read(op.line.stored), op.line.size);
            lookBack(op);
        } else {
            op.value = op.line.reckon(op.line.second < 0 ? 0 : op.read(op.line.second),
                op.line.third < 0 ? 0 : op.read(op.line.third));
        }
    }

    private void lookBack(Op store) {
        List<Op> wrong = new ArrayList<>();
        for (Op op : ops) {
            boolean old = false;
            for (int i = 0; i < op.line.size && op.load() && op.number > store.number; i++) {
                Op giver = op.givers[i];
                old |= store.covers((op.place + i) % 64) && (giver == null || giver.number < store.number);
            }
            if (old && op.stage == Stage.DONE) {
                wrong.add(op);
            }
        }
        wrong.forEach(load -> melt(load.number, store.number));
        for (Op load : wrong) {
            totals[1]++;
            replay(load);
        }
    }

    private void melt(int a, int b) {
        TreeSet<Integer> both = new TreeSet<>(List.of(sets[a]));
        both.add(sets[b]);
        both.remove(-1);
        if (both.isEmpty()) {
            both.add(nextSet);
            nextSet = nextSet == 15 ? 0 : nextSet + 1;
        }
        sets[a] = both.first();
        sets[b] = both.first();
    }

    private void replay(Op op) {
        if (op.stage == Stage.WAITING) {
            return;
        }
        op.stage = Stage.WAITING;
        op.replays++;
        totals[2]++;
        for (int i = ops.size() - 1; i >= op.number && op.whole != null; i--) {
            undo(ops.get(i));
        }
        for (Op other : ops) {
            boolean took = other.load() && other.stage == Stage.DONE && List.of(1, 2, 3, 4).stream()
                .anyMatch(i -> i <= other.line.size && other.givers[i - 1] == op);
            if (took || other.sources.contains(op)) {
                replay(other);
            }
        }
    }

    private void undo(Op op) {
        if (op.whole != null) {
            memory = op.whole;
            op.whole = null;
            totals[4]++;
        }
    }

    private int[] letters(Op op, int draw) {
        int set = sets[op.number] < 0 ? 16 : sets[op.number];
        return new int[] {op.number, op.line.kind(), cycle % 100, set, op.replays, runs % 100, draw};
    }

    private void sendOff(int wide, boolean cautious) {
        int gone = 0;
        for (Op op : ops) {
            if (op.stage != Stage.WAITING || op.sources.stream().anyMatch(s -> s.stage != Stage.DONE)) {
                continue;
            }
            if (kept(op, cautious)) {
                totals[5]++;
            } else if (gone < wide) {
                gone++;
                x = (int) ((25173L * x + 13849) % 65536);
                op.stage = Stage.OFF;
                op.until = cycle + law.delay(letters(op, x % 10), op.load());
            }
        }
    }

    private boolean kept(Op op, boolean cautious) {
        if (cautious && op.load()) {
            return ops.stream().anyMatch(s -> s.store() && s.number < op.number && s.stage != Stage.DONE);
        }
        Op youngest = null;
        for (Op store : ops) {
            if (store.store() && store.number < op.number && sets[store.number] >= 0
                && sets[store.number] == sets[op.number]) {
                youngest = store;
            }
        }
        return youngest != null && youngest.stage != Stage.DONE;
    }

    private void retire() {
        Op oldest = null;
        boolean allDone = true;
        for (Op op : ops) {
            if (op.store() && op.stage == Stage.DONE && op.whole == null) {
                oldest = op;
                break;
            }
            allDone &= op.stage == Stage.DONE;
        }
        if (oldest == null || (!allDone && law.holdsBack(letters(oldest, 0)))) {
            return;
        }
        totals[3] += allDone ? 0 : 1;
        for (int i = ops.size() - 1; i > oldest.number; i--) {
            undo(ops.get(i));
        }
        oldest.whole = memory.clone();
        for (int at = 0; at < 64; at++) {
            if (oldest.covers(at)) {
                memory[at] = oldest.byteAt(at);
            }
        }
    }
}
