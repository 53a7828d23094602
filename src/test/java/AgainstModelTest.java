import java.util.ArrayList;
import java.util.List;
import java.util.Random;

/** Drawn calls (the draws are always the same) on the class and on the model: all answers are alike. */
public final class AgainstModelTest {
    private static final int OBJECTS = 1500;
    private static final int CALLS = 512;
    private static int wrong;

    private final Random random;
    private final Texts texts;
    private final LoadsAhead one = new LoadsAhead();
    private final Model other = new Model();
    private final List<String> told = new ArrayList<>();
    private boolean differs;

    private AgainstModelTest(int seed) {
        random = new Random(seed);
        texts = new Texts(random);
    }

    private void alike(String call, int got, int due) {
        told.add(call + " -> " + got);
        if (got != due) {
            differs = true;
            wrong++;
            System.out.println(String.join("\n", told.subList(Math.max(0, told.size() - 40), told.size())));
            System.out.println("the model has " + due);
        }
    }

    private static int bit(boolean answer) {
        return answer ? 1 : 0;
    }

    private int around(int least, int most) {
        if (random.nextInt(40) == 0) {
            int[] odd = {Integer.MIN_VALUE, Integer.MAX_VALUE, -1, least - 1, most + 1, -100, 1000};
            return odd[random.nextInt(odd.length)];
        }
        return least + random.nextInt(most - least + 1);
    }

    private void feed(String text) {
        String left = text;
        for (int i = 0; i < 13 && (i == 0 || !left.isEmpty()); i++) {
            int[] fed = new int[5];
            for (int j = 0; j < 20; j++) {
                int sign = j < left.length() ? left.charAt(j) : random.nextInt(256);
                fed[j / 4] = fed[j / 4] << 8 | sign;
            }
            left = left.length() > 20 ? left.substring(20) : "";
            alike("feed", one.feed(fed[0], fed[1], fed[2], fed[3], fed[4]), other.feed(fed));
        }
    }

    private void tellProgram() {
        String text = texts.program();
        if (random.nextInt(3) == 0) {
            text = texts.spoilt(text, "#+-*&^>LSbhwr01234567;,89x");
        }
        feed(text);
        int n = random.nextInt(30) == 0 ? around(0, 260) : text.length();
        alike("program(" + n + ") " + text, one.program(n), other.program(n));
    }

    private void tellLaw() {
        String text = texts.law();
        if (random.nextInt(2) == 0) {
            text = texts.spoilt(text, "dx()[]!&|<>=+-*/%ikcsnrw0123456789;");
        }
        feed(text);
        int n = random.nextInt(30) == 0 ? around(0, 260) : text.length();
        alike("law(" + n + ") " + text, one.law(n), other.law(n));
    }

    private void tellMemory() {
        int n = random.nextInt(65);
        StringBuilder text = new StringBuilder();
        for (int at = 0; at < n; at++) {
            text.append((char) (one.now(100 + at) & 255));
        }
        if (random.nextBoolean() && n > 0) {
            text.setCharAt(random.nextInt(n), (char) random.nextInt(256));
        }
        feed(text.toString());
        int asked = random.nextInt(10) == 0 ? around(0, 64) : n;
        alike("check(" + asked + ")", one.check(asked), other.check(asked));
    }

    private int totalOrCell() {
        int kind = random.nextInt(3);
        return kind == 0 ? around(0, 5) : kind == 1 ? around(10, 17) : around(100, 163);
    }

    private int cell() {
        return random.nextBoolean() ? around(0, 7) : around(100, 163);
    }

    private void change() {
        int a = around(0, 7);
        int b = random.nextInt(4) == 0 ? random.nextInt() : random.nextInt(80);
        int at = around(0, 63);
        int v = around(0, 255);
        int x = around(0, 65535);
        switch (random.nextInt(9)) {
            case 0: alike("register(" + a + "," + b + ")", bit(one.register(a, b)), bit(other.register(a, b))); break;
            case 1: alike("poke(" + at + "," + v + ")", bit(one.poke(at, v)), bit(other.poke(at, v))); break;
            case 2: alike("seed(" + x + ")", bit(one.seed(x)), bit(other.seed(x))); break;
            case 3: alike("keep", one.keep(), other.keep()); break;
            case 4: alike("undo", bit(one.undo()), bit(other.undo())); break;
            case 5: alike("forget", one.forget(), other.forget()); break;
            case 6: tellMemory(); break;
            case 7: tellProgram(); break;
            default: tellLaw(); break;
        }
    }

    private void watch() {
        int row = around(0, 1);
        int op = around(0, Math.max(0, one.count(1) - 1));
        int i = around(0, 8);
        int what = around(0, 6);
        if (random.nextBoolean()) {
            alike("watch(" + row + "," + op + ")", one.watch(row, op), other.watch(row, op));
        } else {
            alike("watched(" + row + "," + i + "," + what + ")", one.watched(row, i, what), other.watched(row, i, what));
        }
    }

    private void ask() {
        int wide = around(1, 4);
        int what = around(0, 5);
        int mixed = totalOrCell();
        int cell = cell();
        int few = around(0, 1);
        switch (random.nextInt(9)) {
            case 0: alike("tried(" + wide + "," + mixed + ")", one.tried(wide, mixed), other.tried(wide, mixed)); break;
            case 1: alike("now(" + cell + ")", one.now(cell), other.now(cell)); break;
            case 2: alike("plain(" + cell + ")", one.plain(cell), other.plain(cell)); break;
            case 3: alike("unlike(" + wide + ")", one.unlike(wide), other.unlike(wide)); break;
            case 4: alike("fastest(" + few + ")", one.fastest(few), other.fastest(few)); break;
            case 5: alike("cautious(" + wide + "," + what + ")", one.cautious(wide, what), other.cautious(wide, what)); break;
            case 6: alike("worst(" + few + ")", one.worst(few), other.worst(few)); break;
            case 7: alike("deep", one.deep(), other.deep()); break;
            default: alike("mix", one.mix(), other.mix()); break;
        }
    }

    private void askAll() {
        for (int what = -1; what <= 12; what++) {
            alike("count(" + what + ")", one.count(what), other.count(what));
        }
        for (int what = -1; what <= 6; what++) {
            alike("lastRun(" + what + ")", one.lastRun(what), other.lastRun(what));
        }
        int op = around(0, Math.max(0, one.count(1) - 1));
        for (int what = -1; what <= 15; what++) {
            alike("opIs(" + op + "," + what + ")", one.opIs(op, what), other.opIs(op, what));
        }
        for (int r = -1; r <= 8; r++) {
            alike("source(" + op + "," + r + ")", one.source(op, r), other.source(op, r));
        }
    }

    private void go() {
        tellProgram();
        tellLaw();
        while (told.size() < CALLS && !differs) {
            int kind = random.nextInt(20);
            int wide = around(1, 4);
            if (kind < 5) {
                alike("run(" + wide + ")", one.run(wide), other.run(wide));
            } else if (kind < 9) {
                change();
            } else if (kind < 11) {
                watch();
            } else if (kind < 17) {
                ask();
            } else {
                askAll();
            }
        }
    }

    public static void main(String[] args) {
        int objects = args.length > 0 ? Integer.parseInt(args[0]) : OBJECTS;
        int first = args.length > 1 ? Integer.parseInt(args[1]) : 0;
        for (int seed = first; seed < first + objects && wrong < 3; seed++) {
            new AgainstModelTest(seed).go();
        }
        System.out.println(wrong == 0 ? "all answers are as the model's" : wrong + " answers are not as the model's");
        if (wrong != 0) {
            System.exit(1);
        }
    }
}
