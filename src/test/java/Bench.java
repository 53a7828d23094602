import java.io.IOException;
import java.nio.charset.StandardCharsets;
import java.nio.file.Files;
import java.nio.file.Path;

/** What the tests of the document's sentences share: texts by the tape, and answers that are due. */
abstract class Bench {
    private static final Path DOCUMENT = Path.of("../shared/DOC.md");
    private static final int LAST_SIGN = 255;
    private static String words = "";
    private static String document = "";
    private static int sentences;
    private static int answers;
    private static int wrong;

    /** What follows tests this sentence; it must stand so in the document. */
    static void sentence(String said) {
        words = said;
        sentences++;
        if (document.isEmpty()) {
            document = read();
        }
        if (!document.contains(said)) {
            wrong++;
            System.out.println("the document does not say: " + said);
        }
    }

    private static String read() {
        try {
            return Files.readString(DOCUMENT, StandardCharsets.UTF_8).replaceAll("\\s+", " ");
        } catch (IOException e) {
            throw new IllegalStateException("the document can't be read", e);
        }
    }

    static void due(String call, int got, int want) {
        answers++;
        if (got != want) {
            wrong++;
            System.out.println("[" + words + "] " + call + " answered " + got + ", due is " + want);
        }
    }

    static void due(String call, boolean got, boolean want) {
        due(call, got ? 1 : 0, want ? 1 : 0);
    }

    /** How many answers were not as due. */
    static int wrong() {
        return wrong;
    }

    static void end() {
        System.out.println(sentences + " sentences, " + answers + " answers, " + wrong + " not as due");
        if (wrong != 0 || sentences == 0) {
            System.exit(1);
        }
    }

    static void feed(LoadsAhead x, String text) {
        for (int from = 0; from < text.length(); from += 20) {
            int[] fed = new int[5];
            for (int i = 0; i < 20; i++) {
                int sign = from + i < text.length() ? text.charAt(from + i) : 'a';
                fed[i / 4] = fed[i / 4] << 8 | sign;
            }
            x.feed(fed[0], fed[1], fed[2], fed[3], fed[4]);
        }
    }

    static int program(LoadsAhead x, String text) {
        feed(x, text);
        return x.program(text.length());
    }

    static int law(LoadsAhead x, String text) {
        feed(x, text);
        return x.law(text.length());
    }

    /** A new object with a program, and with a law if that is not empty. */
    static LoadsAhead bench(String program, String law) {
        LoadsAhead x = new LoadsAhead();
        due("program " + program, program(x, program) > 0, true);
        if (!law.isEmpty()) {
            due("law " + law, law(x, law) > 0, true);
        }
        return x;
    }

    static void dueProgram(String text, int answer) {
        due("program " + text, program(new LoadsAhead(), text), answer);
    }

    static void dueLaw(String text, int answer) {
        due("law " + text, law(new LoadsAhead(), text), answer);
    }

    /** Behind a text that is right so far each sign but those that can stand there is fault 1, at it. */
    static void programStands(String sofar, String can) {
        for (char sign = 0; sign <= LAST_SIGN; sign++) {
            int answer = program(new LoadsAhead(), sofar + sign);
            dueStands("program " + sofar + " and " + (int) sign, answer, sofar.length(), can.indexOf(sign) >= 0);
        }
    }

    static void lawStands(String sofar, String can) {
        for (char sign = 0; sign <= LAST_SIGN; sign++) {
            int answer = law(new LoadsAhead(), sofar + sign);
            dueStands("law " + sofar + " and " + (int) sign, answer, sofar.length(), can.indexOf(sign) >= 0);
        }
    }

    /** A sign that can stand there ends the text, or the end behind it is the fault. */
    private static void dueStands(String call, int answer, int place, boolean can) {
        if (can) {
            due(call + " ends or not", answer > 0 || answer == -1000 - place - 1, true);
        } else {
            due(call, answer, -1000 - place);
        }
    }

    /** The delay that a law tells for op 0 of a program of one op. */
    static void dueDelay(String program, String law, int delay) {
        due("delay of " + program + " by " + law, bench(program, law).run(1), delay + 1);
    }

    /** The delay that a law tells for a # that is op 0. */
    static void dueDelay(String law, int delay) {
        dueDelay("#1,1", law, delay);
    }

    /** What lastRun() tells, 0 on. */
    static void dueLast(LoadsAhead x, int... wanted) {
        for (int what = 0; what < wanted.length; what++) {
            due("lastRun(" + what + ")", x.lastRun(what), wanted[what]);
        }
    }

    static void dueCounts(LoadsAhead x, int... wanted) {
        for (int what = 0; what < wanted.length; what++) {
            due("count(" + what + ")", x.count(what), wanted[what]);
        }
    }

    /** What opIs() tells of the ops 0 on. */
    static void dueOps(LoadsAhead x, int what, int... wanted) {
        for (int op = 0; op < wanted.length; op++) {
            due("opIs(" + op + ", " + what + ")", x.opIs(op, what), wanted[op]);
        }
    }

    /** All that can be asked without a change, but for what the tape holds. */
    static int[] seen(LoadsAhead x) {
        int[] all = new int[600];
        int n = 0;
        for (int what = 0; what < 12; what++) {
            all[n++] = x.count(what);
        }
        for (int what = 0; what < 164; what++) {
            all[n++] = x.now(what);
        }
        for (int what = 0; what < 6; what++) {
            all[n++] = x.lastRun(what);
        }
        for (int op = 0; op < 20; op++) {
            for (int what = 0; what < 14; what++) {
                all[n++] = x.opIs(op, what);
            }
        }
        for (int i = 0; i < 8; i++) {
            all[n++] = x.watched(0, i, 6);
            all[n++] = x.watched(1, i, 6);
        }
        for (int wide = 1; wide <= 4; wide++) {
            for (int what = 0; what < 6; what++) {
                all[n++] = x.tried(wide, what);
            }
        }
        all[n++] = x.worst(0);
        all[n++] = x.worst(1);
        return all;
    }

    /** Nothing differs from what was seen. */
    static void dueSame(String call, LoadsAhead x, int[] before) {
        int[] after = seen(x);
        int differ = 0;
        for (int i = 0; i < after.length; i++) {
            differ += after[i] == before[i] ? 0 : 1;
        }
        due("what differs behind " + call, differ, 0);
    }
}
