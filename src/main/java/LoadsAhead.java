import java.util.Arrays;

/**
 * Loads that go ahead of stores: a small program is gone through cycle by cycle, out of its order,
 * and what was taken too early is replayed. The promises are numbered in DOC.md.
 */
public final class LoadsAhead {
    public static final int NONE = -1;

    private static final int ABSENT = -2;
    private static final int ROW_FULL = -3;
    private static final int BEYOND = -4;
    private static final int UNENDED = -5;
    private static final int WRONG_ROW = -7;
    private static final int NO_SUCH = -100000;

    private static final int REGISTERS = 8;
    private static final int MEMORY = 64;
    private static final int MEMORY_MASK = 63;
    private static final int OPS = 20;
    private static final int RULES = 16;
    private static final int SETS = 16;
    private static final int WIDEST = 4;
    private static final int LAST_CYCLE = 2000;
    private static final int WORD = 4;
    private static final int TAPE = 260;
    private static final int TEXT = 240;
    private static final int FED = 20;
    private static final int ROWS = 2;
    private static final int ROW = 8;
    private static final int COUNTED = 9999;
    private static final int SEEDS = 65536;

    private static final int NUMBER = 0;
    private static final int RECKONS = 1;
    private static final int LOAD = 2;
    private static final int STORE = 3;

    private static final int WAITING = 0;
    private static final int OFF = 1;
    private static final int DONE = 2;

    private static final int CYCLES = 0;
    private static final int WRONG = 1;
    private static final int REPLAYED = 2;
    private static final int RETIRED_AHEAD = 3;
    private static final int UNDONE = 4;
    private static final int WAITED = 5;
    private static final int TOTALS = 6;

    private static final int FAULT_SIGN = 1;
    private static final int FAULT_DIGIT = 2;
    private static final int FAULT_MANY = 4;
    private static final int FAULT_DEEP = 5;

    private final Tape tape;
    private final Machine machine;
    private final Program spareProgram;
    private final Law spareLaw;
    private final Plain inOrder;
    private final Report last;
    private final State kept;
    private final Rows rows;
    private boolean hasLast;
    private boolean hasKept;
    private boolean toldSinceKept;

    public LoadsAhead() {
        tape = new Tape();
        machine = new Machine();
        spareProgram = new Program();
        spareLaw = new Law();
        inOrder = new Plain();
        last = new Report();
        kept = new State();
        rows = new Rows();
        hasLast = false;
        hasKept = false;
        toldSinceKept = false;
    }

    public boolean register(int r, int v) {
        if (r < 0 || r >= REGISTERS) {
            return false;
        }
        machine.now.registers[r] = v;
        return true;
    }

    public boolean poke(int at, int v) {
        if (at < 0 || at >= MEMORY || v < 0 || v > 255) {
            return false;
        }
        machine.now.memory[at] = v;
        return true;
    }

    public int feed(int a, int b, int c, int d, int e) {
        if (tape.length + FED > TAPE) {
            return NONE;
        }
        tape.add(a);
        tape.add(b);
        tape.add(c);
        tape.add(d);
        tape.add(e);
        return tape.length;
    }

    public int law(int n) {
        if (n < 1 || n > TEXT || n > tape.length) {
            return NONE;
        }
        tape.beginText(n);
        int answer = spareLaw.readFrom(tape);
        if (answer >= 0) {
            machine.law.copyFrom(spareLaw);
        }
        tape.clear();
        return answer;
    }

    public int program(int n) {
        if (n < 1 || n > TEXT || n > tape.length) {
            return NONE;
        }
        tape.beginText(n);
        int answer = spareProgram.readFrom(tape);
        if (answer >= 0) {
            machine.program.copyFrom(spareProgram);
            machine.now.dropSets();
            machine.now.nextSet = 0;
            rows.clear();
            hasLast = false;
            toldSinceKept = true;
        }
        tape.clear();
        return answer;
    }

    public int run(int wide) {
        if (!canRun(wide)) {
            return NONE;
        }
        int cycles = machine.go(wide, false);
        if (cycles == UNENDED) {
            machine.now.x = machine.after.x;
            return UNENDED;
        }
        machine.now.copyFrom(machine.after);
        machine.now.runs = Math.min(COUNTED, machine.now.runs + 1);
        last.copyFrom(machine.report);
        hasLast = true;
        return cycles;
    }

    public int tried(int wide, int what) {
        if (!canRun(wide) || (!isTotal(what) && !isCell(what - 10) && !isByte(what))) {
            return NONE;
        }
        boolean ended = machine.go(wide, false) != UNENDED;
        State left = ended ? machine.after : machine.now;
        if (isByte(what)) {
            return left.memory[what - 100];
        }
        if (isCell(what - 10)) {
            return left.registers[what - 10];
        }
        return ended ? machine.report.totals[what] : UNENDED;
    }

    public int lastRun(int what) {
        if (!isTotal(what)) {
            return NONE;
        }
        return hasLast ? last.totals[what] : ABSENT;
    }

    public int opIs(int op, int what) {
        if (!isOp(op) || what < 0 || (what > 5 && what < 10)) {
            return NO_SUCH;
        }
        if (what >= 10) {
            return giverOf(op, what - 10);
        }
        if (what == 0) {
            return machine.program.kinds[op];
        }
        if (what == 1) {
            return orAbsent(machine.now.sets[op]);
        }
        if (!hasLast) {
            return ABSENT;
        }
        switch (what) {
            case 2:
                return last.doneAt[op];
            case 3:
                return last.replays[op];
            case 4:
                return last.values[op];
            default:
                return machine.program.moves(op) ? last.places[op] : ABSENT;
        }
    }

    public int source(int op, int r) {
        if (!isOp(op) || !isCell(r)) {
            return NONE;
        }
        if (machine.program.firsts[op] == r) {
            return orAbsent(machine.program.firstSources[op]);
        }
        if (machine.program.seconds[op] == r) {
            return orAbsent(machine.program.secondSources[op]);
        }
        return ABSENT;
    }

    public int now(int what) {
        if (isCell(what)) {
            return machine.now.registers[what];
        }
        return isByte(what) ? machine.now.memory[what - 100] : NO_SUCH;
    }

    public int plain(int what) {
        if (!isCell(what) && !isByte(what)) {
            return NO_SUCH;
        }
        inOrder.go(machine.program, machine.now);
        return isCell(what) ? inOrder.left.registers[what] : inOrder.left.memory[what - 100];
    }

    public int unlike(int wide) {
        if (!canRun(wide)) {
            return NONE;
        }
        if (machine.go(wide, false) == UNENDED) {
            return UNENDED;
        }
        inOrder.go(machine.program, machine.now);
        return differing(machine.after.registers, inOrder.left.registers)
            + differing(machine.after.memory, inOrder.left.memory);
    }

    public int fastest(int what) {
        if (what < 0 || what > 1 || machine.program.length == 0) {
            return NONE;
        }
        int best = UNENDED;
        int bestWide = UNENDED;
        for (int wide = 1; wide <= WIDEST; wide++) {
            int cycles = machine.go(wide, false);
            if (cycles != UNENDED && (best == UNENDED || cycles < best)) {
                best = cycles;
                bestWide = wide;
            }
        }
        return what == 0 ? bestWide : best;
    }

    public int cautious(int wide, int what) {
        if (!canRun(wide) || !isTotal(what)) {
            return NONE;
        }
        return machine.go(wide, true) == UNENDED ? UNENDED : machine.report.totals[what];
    }

    public int worst(int what) {
        if (what < 0 || what > 1) {
            return NONE;
        }
        if (!hasLast) {
            return ABSENT;
        }
        int most = 0;
        for (int op = 1; op < machine.program.length; op++) {
            if (last.replays[op] > last.replays[most]) {
                most = op;
            }
        }
        return what == 0 ? most : last.replays[most];
    }

    public int deep() {
        return machine.program.deepest;
    }

    public int mix() {
        inOrder.go(machine.program, machine.now);
        return inOrder.sharedBytes(machine.program);
    }

    public int watch(int row, int op) {
        if (row < 0 || row >= ROWS) {
            return NONE;
        }
        if (rows.lengths[row] >= ROW) {
            return ROW_FULL;
        }
        if (!isOp(op)) {
            return NONE;
        }
        if (machine.program.kinds[op] != (row == 0 ? LOAD : STORE)) {
            rows.misplaced = Math.min(COUNTED, rows.misplaced + 1);
            return WRONG_ROW;
        }
        return rows.put(row, op);
    }

    public int watched(int row, int i, int what) {
        if (row < 0 || row >= ROWS || i < 0 || what < 0 || what > 6) {
            return NO_SUCH;
        }
        if (i >= rows.lengths[row] || i >= ROW) {
            return BEYOND;
        }
        int op = rows.ops[row][i];
        return what == 6 ? op : opIs(op, what);
    }

    public int forget() {
        int had = machine.now.withSet();
        machine.now.dropSets();
        return had;
    }

    public boolean seed(int x) {
        if (x < 0 || x >= SEEDS) {
            return false;
        }
        machine.now.x = x;
        return true;
    }

    public int keep() {
        kept.copyFrom(machine.now);
        hasKept = true;
        toldSinceKept = false;
        return machine.now.runs;
    }

    public boolean undo() {
        if (!hasKept) {
            return false;
        }
        machine.now.copyCellsFrom(kept);
        if (!toldSinceKept) {
            machine.now.copySetsFrom(kept);
        }
        return true;
    }

    public int check(int n) {
        if (n < 0 || n > MEMORY || n > tape.length) {
            return ABSENT;
        }
        int found = NONE;
        for (int at = 0; at < n && found == NONE; at++) {
            if (tape.bytes[at] != machine.now.memory[at]) {
                found = at;
            }
        }
        tape.clear();
        return found;
    }

    public int count(int what) {
        switch (what) {
            case 0:
                return machine.now.runs;
            case 1:
                return machine.program.length;
            case 2:
                return machine.program.ofKind(LOAD);
            case 3:
                return machine.program.ofKind(STORE);
            case 4:
                return machine.law.length;
            case 5:
                return tape.length;
            case 6:
                return machine.now.x;
            case 7:
                return rows.misplaced;
            case 8:
                return machine.now.withSet();
            case 9:
                return machine.now.nextSet;
            case 10:
                return rows.lengths[0] + rows.lengths[1];
            case 11:
                return machine.now.bytesNotZero();
            default:
                return NONE;
        }
    }

    private boolean canRun(int wide) {
        return wide >= 1 && wide <= WIDEST && machine.program.length > 0;
    }

    private boolean isOp(int op) {
        return op >= 0 && op < machine.program.length;
    }

    private int giverOf(int op, int i) {
        if (machine.program.kinds[op] != LOAD || i >= machine.program.sizes[op]) {
            return BEYOND;
        }
        return hasLast ? orAbsent(last.givers[op * WORD + i]) : ABSENT;
    }

    private static boolean isTotal(int what) {
        return what >= 0 && what < TOTALS;
    }

    private static boolean isCell(int r) {
        return r >= 0 && r < REGISTERS;
    }

    private static boolean isByte(int what) {
        return what >= 100 && what < 100 + MEMORY;
    }

    private static int orAbsent(int found) {
        return found == NONE ? ABSENT : found;
    }

    private static int differing(int[] one, int[] other) {
        int differ = 0;
        for (int i = 0; i < one.length && i < other.length; i++) {
            if (one[i] != other[i]) {
                differ++;
            }
        }
        return differ;
    }

    private static boolean covers(int place, int size, int at) {
        return ((at - place) & MEMORY_MASK) < size;
    }

    /** The bytes that were fed; a text is read from its beginning on, up to the first fault. */
    private static final class Tape {
        final int[] bytes = new int[TAPE];
        int length;
        private int end;
        private int at;
        private int fault;

        void add(int four) {
            for (int shift = 24; shift >= 0; shift -= 8) {
                if (length < TAPE) {
                    bytes[length] = (four >>> shift) & 255;
                    length++;
                }
            }
        }

        void clear() {
            length = 0;
        }

        void beginText(int n) {
            end = Math.min(n, length);
            at = 0;
            fault = 0;
        }

        boolean ended() {
            return at >= end;
        }

        /** The sign that is next; NONE, which is no sign, at the end. */
        int sign() {
            return at >= 0 && at < end && at < TAPE ? bytes[at] : NONE;
        }

        boolean digitNext() {
            return sign() >= '0' && sign() <= '9';
        }

        void step() {
            at++;
        }

        boolean accept(int wanted) {
            if (sign() != wanted) {
                return fail(FAULT_SIGN);
            }
            at++;
            return true;
        }

        /** Answers false, so that a reader can pass it on. */
        boolean fail(int number) {
            fault = -1000 * number - at;
            return false;
        }

        int fault() {
            return fault;
        }

        /** A number, or NONE behind a fault. */
        int readDigits(int most) {
            int value = 0;
            for (int digits = 0; digits < most && (digits == 0 || digitNext()); digits++) {
                if (!digitNext()) {
                    fail(FAULT_SIGN);
                    return NONE;
                }
                value = value * 10 + sign() - '0';
                at++;
            }
            if (digitNext()) {
                fail(FAULT_DIGIT);
                return NONE;
            }
            return value;
        }

        /** A register, or NONE behind a fault. */
        int readRegister() {
            int r = sign() - '0';
            if (r < 0 || r >= REGISTERS) {
                fail(FAULT_SIGN);
                return NONE;
            }
            at++;
            return r;
        }
    }

    /** The ops of a program; a register that an op does not have is NONE. */
    private static final class Program {
        private static final int DIGITS = 4;

        final int[] kinds = new int[OPS];
        final int[] signs = new int[OPS];
        final int[] sizes = new int[OPS];
        final int[] gives = new int[OPS];
        final int[] firsts = new int[OPS];
        final int[] seconds = new int[OPS];
        final int[] numbers = new int[OPS];
        final int[] firstSources = new int[OPS];
        final int[] secondSources = new int[OPS];
        private final int[] givers = new int[REGISTERS];
        private final int[] depths = new int[OPS];
        int length;
        int deepest;

        void copyFrom(Program other) {
            System.arraycopy(other.kinds, 0, kinds, 0, OPS);
            System.arraycopy(other.signs, 0, signs, 0, OPS);
            System.arraycopy(other.sizes, 0, sizes, 0, OPS);
            System.arraycopy(other.gives, 0, gives, 0, OPS);
            System.arraycopy(other.firsts, 0, firsts, 0, OPS);
            System.arraycopy(other.seconds, 0, seconds, 0, OPS);
            System.arraycopy(other.numbers, 0, numbers, 0, OPS);
            System.arraycopy(other.firstSources, 0, firstSources, 0, OPS);
            System.arraycopy(other.secondSources, 0, secondSources, 0, OPS);
            length = other.length;
            deepest = other.deepest;
        }

        /** How many ops the text has, or its fault. */
        int readFrom(Tape text) {
            for (int op = 0; op <= OPS; op++) {
                if (!readOp(text, op)) {
                    return text.fault();
                }
                if (text.ended()) {
                    length = op + 1;
                    findSources();
                    return length;
                }
                if (!text.accept(';')) {
                    return text.fault();
                }
            }
            return text.fault();
        }

        private boolean readOp(Tape text, int op) {
            int sign = text.sign();
            int kind = kindOf(sign);
            if (kind == NONE) {
                return text.fail(FAULT_SIGN);
            }
            if (op >= OPS) {
                return text.fail(FAULT_MANY);
            }
            text.step();
            signs[op] = sign;
            kinds[op] = kind;
            sizes[op] = 0;
            firsts[op] = NONE;
            seconds[op] = NONE;
            numbers[op] = 0;
            if (kind == NUMBER) {
                return readGiven(text, op) && readNumber(text, op);
            }
            return kind == RECKONS ? readReckoning(text, op) : readMove(text, op);
        }

        private static int kindOf(int sign) {
            switch (sign) {
                case '#':
                    return NUMBER;
                case '+':
                case '-':
                case '*':
                case '&':
                case '^':
                case '>':
                    return RECKONS;
                case 'L':
                    return LOAD;
                case 'S':
                    return STORE;
                default:
                    return NONE;
            }
        }

        private boolean readGiven(Tape text, int op) {
            gives[op] = text.readRegister();
            return gives[op] != NONE && text.accept(',');
        }

        private boolean readNumber(Tape text, int op) {
            numbers[op] = text.readDigits(DIGITS);
            return numbers[op] != NONE;
        }

        private boolean readReckoning(Tape text, int op) {
            if (!readGiven(text, op)) {
                return false;
            }
            firsts[op] = text.readRegister();
            if (firsts[op] == NONE || !text.accept(',')) {
                return false;
            }
            seconds[op] = text.readRegister();
            return seconds[op] != NONE;
        }

        private boolean readMove(Tape text, int op) {
            sizes[op] = sizeOf(text.sign());
            if (sizes[op] == 0) {
                return text.fail(FAULT_SIGN);
            }
            text.step();
            if (!readGiven(text, op)) {
                return false;
            }
            if (kinds[op] == STORE) {
                firsts[op] = gives[op];
                gives[op] = NONE;
            }
            if (text.sign() == 'r') {
                text.step();
                seconds[op] = text.readRegister();
                if (seconds[op] == NONE || !text.accept('+')) {
                    return false;
                }
            }
            return readNumber(text, op);
        }

        private static int sizeOf(int sign) {
            switch (sign) {
                case 'b':
                    return 1;
                case 'h':
                    return 2;
                case 'w':
                    return WORD;
                default:
                    return 0;
            }
        }

        private void findSources() {
            Arrays.fill(givers, NONE);
            deepest = 0;
            for (int op = 0; op < length && op < OPS; op++) {
                firstSources[op] = giverOfRegister(firsts[op]);
                secondSources[op] = giverOfRegister(seconds[op]);
                depths[op] = 1 + Math.max(depthOf(firstSources[op]), depthOf(secondSources[op]));
                deepest = Math.max(deepest, depths[op]);
                if (isCell(gives[op])) {
                    givers[gives[op]] = op;
                }
            }
        }

        private int giverOfRegister(int r) {
            return isCell(r) ? givers[r] : NONE;
        }

        private int depthOf(int op) {
            return op >= 0 && op < OPS ? depths[op] : 0;
        }

        boolean moves(int op) {
            return kinds[op] == LOAD || kinds[op] == STORE;
        }

        int ofKind(int kind) {
            int found = 0;
            for (int op = 0; op < length; op++) {
                if (kinds[op] == kind) {
                    found++;
                }
            }
            return found;
        }

        /** What an op that reckons gives, by what it reads. */
        int reckoned(int op, int first, int second) {
            switch (signs[op]) {
                case '+':
                    return first + second;
                case '-':
                    return first - second;
                case '*':
                    return first * second;
                case '&':
                    return first & second;
                case '^':
                    return first ^ second;
                case '>':
                    return first > second ? 1 : 0;
                default:
                    return numbers[op];
            }
        }

        int placeBy(int op, int base) {
            return (base + numbers[op]) & MEMORY_MASK;
        }

        int storedOf(int op, int value) {
            return sizes[op] == WORD ? value : value & ((1 << (8 * sizes[op])) - 1);
        }
    }

    /**
     * The rules, each turned into steps for a stack: those of its E, then those of its C. A step that
     * skips goes forward alone, so that asking a rule always ends.
     */
    private static final class Law {
        private static final int DIGITS = 5;
        private static final int NESTING = 6;
        private static final int STACK = 64;
        private static final int SHORTEST = 1;
        private static final int LONGEST = 20;
        private static final int CONSTANT = '0';
        private static final int LETTER = 'a';
        private static final String LETTERS = "ikcsnrw";

        private final int[] kinds = new int[RULES];
        private final int[] begins = new int[RULES + 1];
        private final int[] middles = new int[RULES];
        private final int[] steps = new int[TEXT];
        private final int[] operands = new int[TEXT];
        private final int[] letters = new int[LETTERS.length()];
        private final int[] stack = new int[STACK];
        int length;
        private int stepCount;

        void copyFrom(Law other) {
            System.arraycopy(other.kinds, 0, kinds, 0, RULES);
            System.arraycopy(other.begins, 0, begins, 0, RULES + 1);
            System.arraycopy(other.middles, 0, middles, 0, RULES);
            System.arraycopy(other.steps, 0, steps, 0, TEXT);
            System.arraycopy(other.operands, 0, operands, 0, TEXT);
            length = other.length;
        }

        /** How many rules the text has, or its fault. */
        int readFrom(Tape text) {
            stepCount = 0;
            for (int rule = 0; rule <= RULES; rule++) {
                if (!readRule(text, rule)) {
                    return text.fault();
                }
                if (text.ended()) {
                    length = rule + 1;
                    return length;
                }
                if (!text.accept(';')) {
                    return text.fault();
                }
            }
            return text.fault();
        }

        private boolean readRule(Tape text, int rule) {
            int kind = text.sign();
            if (kind != 'd' && kind != 'x') {
                return text.fail(FAULT_SIGN);
            }
            if (rule >= RULES) {
                return text.fail(FAULT_MANY);
            }
            text.step();
            kinds[rule] = kind;
            begins[rule] = stepCount;
            if (kind == 'd' && !readSum(text, 0)) {
                return false;
            }
            middles[rule] = stepCount;
            if (!text.accept('(') || !readEither(text, 1) || !text.accept(')')) {
                return false;
            }
            begins[rule + 1] = stepCount;
            return true;
        }

        /** C; open says how many of ( [ ! are open around it. */
        private boolean readEither(Tape text, int open) {
            if (!readBoth(text, open)) {
                return false;
            }
            for (int more = 0; more < TEXT && text.sign() == '|'; more++) {
                text.step();
                int skip = addStep('|', 0);
                if (!readBoth(text, open)) {
                    return false;
                }
                skipToHere(skip);
            }
            return true;
        }

        private boolean readBoth(Tape text, int open) {
            if (!readTest(text, open)) {
                return false;
            }
            for (int more = 0; more < TEXT && text.sign() == '&'; more++) {
                text.step();
                int skip = addStep('&', 0);
                if (!readTest(text, open)) {
                    return false;
                }
                skipToHere(skip);
            }
            return true;
        }

        private boolean readTest(Tape text, int open) {
            if (text.sign() == '!') {
                if (!opens(text, open) || !readTest(text, open + 1)) {
                    return false;
                }
                addStep('!', 0);
                return true;
            }
            if (text.sign() == '(') {
                return opens(text, open) && readEither(text, open + 1) && text.accept(')');
            }
            if (!readSum(text, open)) {
                return false;
            }
            int sign = text.sign();
            if (sign != '<' && sign != '>' && sign != '=') {
                return text.fail(FAULT_SIGN);
            }
            text.step();
            if (!readSum(text, open)) {
                return false;
            }
            addStep(sign, 0);
            return true;
        }

        private static boolean opens(Tape text, int open) {
            if (open >= NESTING) {
                return text.fail(FAULT_DEEP);
            }
            text.step();
            return true;
        }

        private boolean readSum(Tape text, int open) {
            if (!readProduct(text, open)) {
                return false;
            }
            for (int more = 0; more < TEXT && isOneOf(text.sign(), '+', '-', '-'); more++) {
                int sign = text.sign();
                text.step();
                if (!readProduct(text, open)) {
                    return false;
                }
                addStep(sign, 0);
            }
            return true;
        }

        private boolean readProduct(Tape text, int open) {
            if (!readFactor(text, open)) {
                return false;
            }
            for (int more = 0; more < TEXT && isOneOf(text.sign(), '*', '/', '%'); more++) {
                int sign = text.sign();
                text.step();
                if (!readFactor(text, open)) {
                    return false;
                }
                addStep(sign, 0);
            }
            return true;
        }

        private static boolean isOneOf(int sign, int a, int b, int c) {
            return sign == a || sign == b || sign == c;
        }

        private boolean readFactor(Tape text, int open) {
            int sign = text.sign();
            if (sign == '[') {
                return opens(text, open) && readSum(text, open + 1) && text.accept(']');
            }
            if (text.digitNext()) {
                int number = text.readDigits(DIGITS);
                addStep(CONSTANT, number);
                return number != NONE;
            }
            int letter = sign == NONE ? NONE : LETTERS.indexOf((char) sign);
            if (letter < 0) {
                return text.fail(FAULT_SIGN);
            }
            text.step();
            addStep(LETTER, letter);
            return true;
        }

        /** Each step has a sign of its own in the text, so that there is always room. */
        private int addStep(int step, int operand) {
            if (stepCount >= TEXT) {
                return NONE;
            }
            steps[stepCount] = step;
            operands[stepCount] = operand;
            stepCount++;
            return stepCount - 1;
        }

        private void skipToHere(int skip) {
            if (skip >= 0 && skip < TEXT) {
                operands[skip] = stepCount;
            }
        }

        /** What the letters stand for in the questions that follow, in the order of LETTERS. */
        void tell(int i, int k, int c, int s, int n, int r, int w) {
            letters[0] = i;
            letters[1] = k;
            letters[2] = c;
            letters[3] = s;
            letters[4] = n;
            letters[5] = r;
            letters[6] = w;
        }

        int delay(int unruled) {
            for (int rule = 0; rule < length; rule++) {
                if (kinds[rule] == 'd' && holds(rule)) {
                    int cycles = reckon(begins[rule], middles[rule]);
                    return Math.max(SHORTEST, Math.min(LONGEST, cycles));
                }
            }
            return unruled;
        }

        boolean holdsBack() {
            for (int rule = 0; rule < length; rule++) {
                if (kinds[rule] == 'x' && holds(rule)) {
                    return true;
                }
            }
            return false;
        }

        private boolean holds(int rule) {
            return reckon(middles[rule], begins[rule + 1]) != 0;
        }

        /** 0 if it is refused: as an E it is that, as a C it does not hold. */
        private int reckon(int from, int to) {
            int top = 0;
            int next = from;
            for (int at = from; at < to && at < TEXT; at++) {
                if (at < next) {
                    continue;
                }
                int step = steps[at];
                if (step == CONSTANT || step == LETTER) {
                    if (top >= STACK) {
                        return 0;
                    }
                    stack[top] = step == CONSTANT ? operands[at] : letters[operands[at]];
                    top++;
                } else if (top < 1) {
                    return 0;
                } else if (step == '!') {
                    stack[top - 1] = 1 - stack[top - 1];
                } else if (step == '&' || step == '|') {
                    if ((stack[top - 1] != 0) == (step == '|')) {
                        next = operands[at];
                    } else {
                        top--;
                    }
                } else if (top < 2 || (stack[top - 1] == 0 && (step == '/' || step == '%'))) {
                    return 0;
                } else {
                    top--;
                    stack[top - 1] = joined(step, stack[top - 1], stack[top]);
                }
            }
            return top > 0 ? stack[0] : 0;
        }

        private static int joined(int step, int left, int right) {
            switch (step) {
                case '+':
                    return left + right;
                case '-':
                    return left - right;
                case '*':
                    return left * right;
                case '<':
                    return left < right ? 1 : 0;
                case '>':
                    return left > right ? 1 : 0;
                case '=':
                    return left == right ? 1 : 0;
                case '/':
                    return right == 0 ? 0 : left / right;
                default:
                    return right == 0 ? 0 : left % right;
            }
        }
    }

    /** What a run changes and what is kept. */
    private static final class State {
        final int[] registers = new int[REGISTERS];
        final int[] memory = new int[MEMORY];
        final int[] sets = new int[OPS];
        int nextSet;
        int runs;
        int x;

        State() {
            Arrays.fill(sets, NONE);
            nextSet = 0;
            runs = 0;
            x = 1;
        }

        void copyFrom(State other) {
            copyCellsFrom(other);
            copySetsFrom(other);
        }

        void copyCellsFrom(State other) {
            System.arraycopy(other.registers, 0, registers, 0, REGISTERS);
            System.arraycopy(other.memory, 0, memory, 0, MEMORY);
            runs = other.runs;
            x = other.x;
        }

        void copySetsFrom(State other) {
            System.arraycopy(other.sets, 0, sets, 0, OPS);
            nextSet = other.nextSet;
        }

        void dropSets() {
            Arrays.fill(sets, NONE);
        }

        int withSet() {
            int found = 0;
            for (int op = 0; op < OPS; op++) {
                if (sets[op] != NONE) {
                    found++;
                }
            }
            return found;
        }

        int bytesNotZero() {
            int found = 0;
            for (int at = 0; at < MEMORY; at++) {
                if (memory[at] != 0) {
                    found++;
                }
            }
            return found;
        }

        int draw() {
            x = (25173 * x + 13849) & (SEEDS - 1);
            return x % 10;
        }

        void melt(int one, int other) {
            int set = Math.min(sets[one], sets[other]);
            if (sets[one] == NONE && sets[other] == NONE) {
                set = nextSet;
                nextSet = (nextSet + 1) % SETS;
            } else if (set == NONE) {
                set = Math.max(sets[one], sets[other]);
            }
            sets[one] = set;
            sets[other] = set;
        }

        void putBytes(int place, int size, int value) {
            for (int i = 0; i < size; i++) {
                memory[(place + i) & MEMORY_MASK] = (value >>> (8 * i)) & 255;
            }
        }
    }

    /** What is told of a run. */
    private static final class Report {
        final int[] totals = new int[TOTALS];
        final int[] doneAt = new int[OPS];
        final int[] replays = new int[OPS];
        final int[] values = new int[OPS];
        final int[] places = new int[OPS];
        final int[] givers = new int[OPS * WORD];

        void clear() {
            Arrays.fill(totals, 0);
            Arrays.fill(doneAt, 0);
            Arrays.fill(replays, 0);
            Arrays.fill(values, 0);
            Arrays.fill(places, 0);
            Arrays.fill(givers, NONE);
        }

        void copyFrom(Report other) {
            System.arraycopy(other.totals, 0, totals, 0, TOTALS);
            System.arraycopy(other.doneAt, 0, doneAt, 0, OPS);
            System.arraycopy(other.replays, 0, replays, 0, OPS);
            System.arraycopy(other.values, 0, values, 0, OPS);
            System.arraycopy(other.places, 0, places, 0, OPS);
            System.arraycopy(other.givers, 0, givers, 0, OPS * WORD);
        }
    }

    /** The program gone through in order; places are those that its loads and stores had then. */
    private static final class Plain {
        final State left = new State();
        private final int[] places = new int[OPS];

        void go(Program program, State start) {
            left.copyFrom(start);
            for (int op = 0; op < program.length; op++) {
                int first = valueIn(program.firsts[op]);
                int second = valueIn(program.seconds[op]);
                places[op] = program.placeBy(op, second);
                if (program.kinds[op] == STORE) {
                    left.putBytes(places[op], program.sizes[op], first);
                } else if (isCell(program.gives[op])) {
                    left.registers[program.gives[op]] = program.kinds[op] == LOAD
                        ? loaded(places[op], program.sizes[op])
                        : program.reckoned(op, first, second);
                }
            }
        }

        private int valueIn(int r) {
            return isCell(r) ? left.registers[r] : 0;
        }

        private int loaded(int place, int size) {
            int value = 0;
            for (int i = 0; i < size; i++) {
                value |= left.memory[(place + i) & MEMORY_MASK] << (8 * i);
            }
            return value;
        }

        /** Of how many twos of a load and a store ahead of it both cover a byte. */
        int sharedBytes(Program program) {
            int found = 0;
            for (int load = 0; load < program.length; load++) {
                for (int store = 0; store < load; store++) {
                    if (program.kinds[load] == LOAD && program.kinds[store] == STORE
                        && meet(program, load, store)) {
                        found++;
                    }
                }
            }
            return found;
        }

        private boolean meet(Program program, int load, int store) {
            return covers(places[store], program.sizes[store], places[load])
                || covers(places[load], program.sizes[load], places[store]);
        }
    }

    /** The ops that are watched: loads in row 0, stores in row 1. */
    private static final class Rows {
        final int[][] ops = new int[ROWS][ROW];
        final int[] lengths = new int[ROWS];
        int misplaced;

        void clear() {
            Arrays.fill(lengths, 0);
        }

        int put(int row, int op) {
            if (lengths[row] < ROW) {
                ops[row][lengths[row]] = op;
                lengths[row]++;
            }
            return lengths[row];
        }
    }

    /** A run out of order: it begins with what is now, which it leaves alone, and leaves after. */
    private static final class Machine {
        final Program program = new Program();
        final Law law = new Law();
        final State now = new State();
        final State after = new State();
        final Report report = new Report();
        private final int[] stages = new int[OPS];
        private final int[] until = new int[OPS];
        private final boolean[] retired = new boolean[OPS];
        private final int[] remembered = new int[OPS * WORD];
        private final int[] wrongLoads = new int[OPS];
        private final int[] queue = new int[OPS];
        private int cycle;

        /** How many cycles it takes, or UNENDED. */
        int go(int wide, boolean loadsWait) {
            begin();
            for (int c = 0; c <= LAST_CYCLE; c++) {
                cycle = c;
                finishOps();
                sendOff(wide, loadsWait);
                retireOne();
                if (settled()) {
                    report.totals[CYCLES] = c + 1;
                    giveRegisters();
                    return c + 1;
                }
            }
            return UNENDED;
        }

        private void begin() {
            after.copyFrom(now);
            report.clear();
            Arrays.fill(stages, WAITING);
            for (int op = 0; op < OPS; op++) {
                retired[op] = false;
            }
        }

        private void finishOps() {
            for (int op = 0; op < program.length; op++) {
                if (stages[op] != OFF || until[op] != cycle) {
                    continue;
                }
                stages[op] = DONE;
                report.doneAt[op] = cycle;
                int first = valueRead(program.firstSources[op], program.firsts[op]);
                int second = valueRead(program.secondSources[op], program.seconds[op]);
                if (program.kinds[op] == LOAD) {
                    report.places[op] = program.placeBy(op, second);
                    takeBytes(op);
                } else if (program.kinds[op] == STORE) {
                    report.places[op] = program.placeBy(op, second);
                    report.values[op] = program.storedOf(op, first);
                    lookBack(op);
                } else {
                    report.values[op] = program.reckoned(op, first, second);
                }
            }
        }

        private int valueRead(int source, int r) {
            if (source >= 0 && source < OPS) {
                return report.values[source];
            }
            return isCell(r) ? now.registers[r] : 0;
        }

        private void takeBytes(int load) {
            int value = 0;
            for (int i = 0; i < program.sizes[load]; i++) {
                int at = (report.places[load] + i) & MEMORY_MASK;
                int store = youngestCovering(load, at);
                int piece = store == NONE ? now.memory[at] : storedAt(store, at);
                report.givers[load * WORD + i] = store;
                value |= piece << (8 * i);
            }
            report.values[load] = value;
        }

        private int youngestCovering(int load, int at) {
            for (int op = load - 1; op >= 0; op--) {
                if (program.kinds[op] == STORE && stages[op] == DONE
                    && covers(report.places[op], program.sizes[op], at)) {
                    return op;
                }
            }
            return NONE;
        }

        private int storedAt(int store, int at) {
            int i = (at - report.places[store]) & MEMORY_MASK;
            return (report.values[store] >>> (8 * i)) & 255;
        }

        private void lookBack(int store) {
            int found = 0;
            for (int op = store + 1; op < program.length; op++) {
                if (program.kinds[op] == LOAD && stages[op] == DONE && tookTooOld(op, store)) {
                    wrongLoads[found] = op;
                    found++;
                    after.melt(op, store);
                }
            }
            for (int i = 0; i < found; i++) {
                report.totals[WRONG]++;
                if (stages[wrongLoads[i]] != WAITING) {
                    replay(wrongLoads[i]);
                }
            }
        }

        private boolean tookTooOld(int load, int store) {
            for (int i = 0; i < program.sizes[load]; i++) {
                int at = (report.places[load] + i) & MEMORY_MASK;
                // NONE is below every store, as memory is older than every store
                if (report.givers[load * WORD + i] < store
                    && covers(report.places[store], program.sizes[store], at)) {
                    return true;
                }
            }
            return false;
        }

        private void replay(int first) {
            makeWait(first);
            queue[0] = first;
            int queued = 1;
            for (int i = 0; i < queued && i < OPS; i++) {
                for (int op = queue[i] + 1; op < program.length; op++) {
                    if (stages[op] != WAITING && queued < OPS && dependsOn(op, queue[i])) {
                        makeWait(op);
                        queue[queued] = op;
                        queued++;
                    }
                }
            }
        }

        private boolean dependsOn(int op, int earlier) {
            if (program.firstSources[op] == earlier || program.secondSources[op] == earlier) {
                return true;
            }
            if (program.kinds[op] != LOAD || stages[op] != DONE) {
                return false;
            }
            for (int i = 0; i < program.sizes[op]; i++) {
                if (report.givers[op * WORD + i] == earlier) {
                    return true;
                }
            }
            return false;
        }

        private void makeWait(int op) {
            stages[op] = WAITING;
            report.replays[op]++;
            report.totals[REPLAYED]++;
            if (retired[op]) {
                undoDownTo(op);
            }
        }

        private void undoDownTo(int oldest) {
            for (int op = program.length - 1; op >= oldest; op--) {
                if (retired[op]) {
                    for (int i = 0; i < program.sizes[op]; i++) {
                        after.memory[(report.places[op] + i) & MEMORY_MASK] = remembered[op * WORD + i];
                    }
                    retired[op] = false;
                    report.totals[UNDONE]++;
                }
            }
        }

        private void sendOff(int wide, boolean loadsWait) {
            int gone = 0;
            for (int op = 0; op < program.length; op++) {
                if (stages[op] != WAITING || !isDone(program.firstSources[op])
                    || !isDone(program.secondSources[op])) {
                    continue;
                }
                if (mustWait(op, loadsWait)) {
                    report.totals[WAITED]++;
                } else if (gone < wide) {
                    gone++;
                    tellLaw(op, after.draw());
                    stages[op] = OFF;
                    until[op] = cycle + law.delay(program.kinds[op] == LOAD ? 2 : 1);
                }
            }
        }

        private boolean isDone(int source) {
            return source < 0 || source >= OPS || stages[source] == DONE;
        }

        private boolean mustWait(int op, boolean loadsWait) {
            boolean forAll = loadsWait && program.kinds[op] == LOAD;
            int set = after.sets[op];
            if (!forAll && set == NONE) {
                return false;
            }
            for (int store = op - 1; store >= 0; store--) {
                if (program.kinds[store] != STORE) {
                    continue;
                }
                if (forAll && stages[store] != DONE) {
                    return true;
                }
                if (!forAll && after.sets[store] == set) {
                    return stages[store] != DONE;
                }
            }
            return false;
        }

        private void tellLaw(int op, int draw) {
            int set = after.sets[op] == NONE ? SETS : after.sets[op];
            law.tell(op, program.kinds[op], cycle % 100, set, report.replays[op], now.runs % 100, draw);
        }

        private void retireOne() {
            int store = oldestToRetire();
            if (store == NONE) {
                return;
            }
            boolean ahead = !doneAhead(store);
            if (ahead) {
                tellLaw(store, 0);
                if (law.holdsBack()) {
                    return;
                }
                report.totals[RETIRED_AHEAD]++;
            }
            undoDownTo(store + 1);
            for (int i = 0; i < program.sizes[store]; i++) {
                int at = (report.places[store] + i) & MEMORY_MASK;
                remembered[store * WORD + i] = after.memory[at];
            }
            after.putBytes(report.places[store], program.sizes[store], report.values[store]);
            retired[store] = true;
        }

        private int oldestToRetire() {
            for (int op = 0; op < program.length; op++) {
                if (program.kinds[op] == STORE && stages[op] == DONE && !retired[op]) {
                    return op;
                }
            }
            return NONE;
        }

        private boolean doneAhead(int op) {
            for (int earlier = 0; earlier < op; earlier++) {
                if (stages[earlier] != DONE) {
                    return false;
                }
            }
            return true;
        }

        private boolean settled() {
            for (int op = 0; op < program.length; op++) {
                if (stages[op] != DONE || (program.kinds[op] == STORE && !retired[op])) {
                    return false;
                }
            }
            return true;
        }

        private void giveRegisters() {
            for (int op = 0; op < program.length; op++) {
                if (isCell(program.gives[op])) {
                    after.registers[program.gives[op]] = report.values[op];
                }
            }
        }
    }
}
