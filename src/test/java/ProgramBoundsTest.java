/** The sentences of the document that name bounds of registers, memory and a program's text. */
public final class ProgramBoundsTest extends Bench {
    private static final String OPS_BEGIN = "#+-*&^>LS";
    private static final String REGISTER_SIGNS = "01234567";
    private static final String DIGITS = "0123456789";

    private static void registers() {
        sentence("REGISTERS 0 to 7, ints (0 at first)");
        LoadsAhead x = new LoadsAhead();
        for (int r = 0; r < 8; r++) {
            due("now(" + r + ")", x.now(r), 0);
        }
        due("now(-1)", x.now(-1), -100000);
        due("now(8)", x.now(8), -100000);
        due("register(-1)", x.register(-1, 1), false);
        due("register(8)", x.register(8, 1), false);
        for (int v : new int[] {Integer.MIN_VALUE, Integer.MIN_VALUE + 1, -100000, -1, 0, 1, Integer.MAX_VALUE}) {
            due("register(0)", x.register(0, v), true);
            due("register(7)", x.register(7, v), true);
            due("now(0)", x.now(0), v);
            due("now(7)", x.now(7), v);
        }
        due("now(1)", x.now(1), 0);
        due("now(6)", x.now(6), 0);
    }

    private static void memory() {
        sentence("MEMORY, bytes 0 to 63 (0 at first)");
        LoadsAhead x = new LoadsAhead();
        for (int at = 0; at < 64; at++) {
            due("now(" + (100 + at) + ")", x.now(100 + at), 0);
        }
        due("now(99)", x.now(99), -100000);
        due("now(164)", x.now(164), -100000);
        due("poke(-1)", x.poke(-1, 1), false);
        due("poke(64)", x.poke(64, 1), false);
        due("none is not 0", x.count(11), 0);
        due("poke(0)", x.poke(0, 255), true);
        due("poke(63)", x.poke(63, 254), true);
        due("now(100)", x.now(100), 255);
        due("now(163)", x.now(163), 254);
        due("two are not 0", x.count(11), 2);
    }

    private static String ops(int many) {
        return "#1,1" + ";#1,1".repeat(many - 1);
    }

    private static void opsAtMost() {
        sentence("OPS 0 on (20 at most; none at first)");
        LoadsAhead x = new LoadsAhead();
        due("ops at first", x.count(1), 0);
        due("opIs(0, 0)", x.opIs(0, 0), -100000);
        due("one", program(x, ops(1)), 1);
        due("opIs(0, 0)", x.opIs(0, 0), 0);
        due("opIs(1, 0)", x.opIs(1, 0), -100000);
        due("nineteen", program(x, ops(19)), 19);
        due("opIs(18, 0)", x.opIs(18, 0), 0);
        due("opIs(19, 0)", x.opIs(19, 0), -100000);
        due("twenty", program(x, ops(20)), 20);
        due("opIs(-1, 0)", x.opIs(-1, 0), -100000);
        due("opIs(19, 0)", x.opIs(19, 0), 0);
        due("opIs(20, 0)", x.opIs(20, 0), -100000);
        due("21", program(x, ops(21)), -4100);
        due("ops", x.count(1), 20);
    }

    private static void textAtMost() {
        sentence("A PROGRAM's text: a TEXT of at most 240 bytes, no blanks");
        String longest = "Lw1,r1+0063" + ";Sw1,r1+0063".repeat(19);
        due("the longest that has 20 ops", longest.length(), 239);
        dueProgram(longest, 20);
        dueProgram(longest + ";", -1240);
        dueProgram(longest + "0", -2239);
        LoadsAhead x = new LoadsAhead();
        feed(x, longest + ";#1,1");
        due("program(241)", x.program(241), -1);
        due("the tape stays", x.count(5), 260);
        due("program(240): it ends at 240, whatever follows", x.program(240), -1240);
        feed(x, longest + ";#1,1");
        due("program(239), whatever follows", x.program(239), 20);
        String text = "#1,50;Lb2,r3+40;+1,2,3;Sw7,63";
        for (int at = 0; at <= text.length(); at++) {
            for (char blank : new char[] {' ', '\t', '\n', '\r', 0, 160}) {
                dueProgram(text.substring(0, at) + blank + text.substring(at), -1000 - at);
            }
        }
    }

    private static void between() {
        sentence("OPS with a ; (59) between two");
        dueProgram("#1,5", 1);
        dueProgram("#1,5;#2,6", 2);
        dueProgram("#1,5:#2,6", -1004);
        dueProgram("#1,5<#2,6", -1004);
        dueProgram("#1,5#2,6", -1004);
        dueProgram(";#1,5", -1000);
        dueProgram("#1,5;", -1005);
        dueProgram("#1,5;;#2,6", -1005);
        programStands("", OPS_BEGIN);
        programStands("#1,5;", OPS_BEGIN);
        programStands("+1,2,3", ";");
        programStands("#1,1234".substring(0, 6), DIGITS + ";");
    }

    private static void number() {
        sentence("# (35), a REGISTER (a digit 0 to 7), a , (44) and a number: it becomes that");
        programStands("#", REGISTER_SIGNS);
        programStands("#0", ",");
        programStands("#7", ",");
        programStands("#1,", DIGITS);
        for (int number : new int[] {0, 1, 9, 10, 99, 100, 999, 1000, 9998, 9999}) {
            LoadsAhead x = bench("#0," + number + ";#7," + number, "");
            x.register(0, -5);
            x.register(7, -5);
            due("plain(0)", x.plain(0), number);
            due("plain(7)", x.plain(7), number);
            x.run(1);
            due("now(0)", x.now(0), number);
            due("now(7)", x.now(7), number);
        }
    }

    private static void reckoning() {
        sentence("one of + - * & ^ (38, 94: each bit of both, of one alone), and three REGISTERS with a , between two");
        for (char sign : "+-*&^>".toCharArray()) {
            programStands("" + sign, REGISTER_SIGNS);
            programStands(sign + "0", ",");
            programStands(sign + "0,", REGISTER_SIGNS);
            programStands(sign + "0,7", ",");
            programStands(sign + "0,7,", REGISTER_SIGNS);
            programStands(sign + "0,7,0", ";");
        }
        dueReckoned('&', 0x0ff0f00f, 0x3c3c3c3c, 0x0c30300c);
        dueReckoned('&', -1, 5, 5);
        dueReckoned('&', 0, -1, 0);
        dueReckoned('^', 0x0ff0f00f, 0x3c3c3c3c, 0x33cccc33);
        dueReckoned('^', -1, 5, -6);
        dueReckoned('^', -1, -1, 0);
        sentence("the first becomes the second one so with the third (with 32 bits, as the machine does)");
        dueReckoned('+', 7, 3, 10);
        dueReckoned('+', Integer.MAX_VALUE, 0, Integer.MAX_VALUE);
        dueReckoned('+', Integer.MAX_VALUE, 1, Integer.MIN_VALUE);
        dueReckoned('+', Integer.MIN_VALUE, -1, Integer.MAX_VALUE);
        dueReckoned('-', 7, 3, 4);
        dueReckoned('-', 3, 7, -4);
        dueReckoned('-', Integer.MIN_VALUE, 0, Integer.MIN_VALUE);
        dueReckoned('-', Integer.MIN_VALUE, 1, Integer.MAX_VALUE);
        dueReckoned('-', 0, Integer.MIN_VALUE, Integer.MIN_VALUE);
        dueReckoned('*', 7, -3, -21);
        dueReckoned('*', 32768, 65535, 2147450880);
        dueReckoned('*', 32768, 65536, Integer.MIN_VALUE);
        dueReckoned('*', 65536, 65536, 0);
        dueReckoned('*', Integer.MIN_VALUE, -1, Integer.MIN_VALUE);
        sentence("> (62) and three REGISTERS: the first becomes 1 if the second is above the third, else 0");
        dueReckoned('>', 5, 4, 1);
        dueReckoned('>', 5, 5, 0);
        dueReckoned('>', 5, 6, 0);
        dueReckoned('>', 0, -1, 1);
        dueReckoned('>', -1, 0, 0);
        dueReckoned('>', Integer.MAX_VALUE, Integer.MIN_VALUE, 1);
        dueReckoned('>', Integer.MIN_VALUE, Integer.MAX_VALUE, 0);
        dueReckoned('>', Integer.MIN_VALUE, Integer.MIN_VALUE, 0);
    }

    private static void dueReckoned(char sign, int second, int third, int want) {
        LoadsAhead x = bench(sign + "1,2,3", "");
        x.register(1, 77);
        x.register(2, second);
        x.register(3, third);
        String call = second + " " + sign + " " + third;
        due(call + " in order", x.plain(1), want);
        x.run(1);
        due(call + " by a run", x.now(1), want);
        due(call + " of the op", x.opIs(0, 4), want);
        due("the second stays", x.now(2), second);
        due("the third stays", x.now(3), third);
    }

    private static void moves() {
        sentence("L, a size, a REGISTER, a ,, a PLACE: a load; S, a size, a REGISTER, a ,, a PLACE: a store");
        for (char kind : "LS".toCharArray()) {
            programStands("" + kind, "bhw");
            for (char size : "bhw".toCharArray()) {
                programStands("" + kind + size, REGISTER_SIGNS);
                programStands("" + kind + size + "0", ",");
                programStands("" + kind + size + "7,", DIGITS + "r");
            }
            due("kind", bench(kind + "b1,0", "").opIs(0, 0), kind == 'L' ? 2 : 3);
        }
        sentence("A size: b, h, w: 1, 2, 4 bytes, the lowest first (a load of b, h has no sign)");
        for (int size = 1; size <= 4; size *= 2) {
            String sign = size == 1 ? "b" : size == 2 ? "h" : "w";
            LoadsAhead x = bench("S" + sign + "1,20;L" + sign + "2,20;L" + sign + "3,40", "");
            for (int at = 16; at < 28; at++) {
                x.poke(at, 200);
            }
            x.register(1, 0x84838281);
            for (int i = 0; i < 4; i++) {
                x.poke(40 + i, 0x91 + i);
            }
            int stored = size == 1 ? 0x81 : size == 2 ? 0x8281 : 0x84838281;
            int there = size == 1 ? 0x91 : size == 2 ? 0x9291 : 0x94939291;
            due("in order", x.plain(2), stored);
            due("in order", x.plain(3), there);
            x.run(1);
            due("by a run", x.now(2), stored);
            due("by a run", x.now(3), there);
            due("what it stored", x.opIs(0, 4), stored);
            for (int at = 16; at < 28; at++) {
                due("byte " + at, x.now(100 + at), at >= 20 && at < 20 + size ? 0x81 + at - 20 : 200);
            }
        }
        dueLoaded("b", 127, 0, 127);
        dueLoaded("b", 128, 0, 128);
        dueLoaded("b", 255, 255, 255);
        dueLoaded("h", 255, 127, 32767);
        dueLoaded("h", 0, 128, 32768);
        dueLoaded("h", 255, 255, 65535);
        dueLoaded("w", 0, 0, 0x80000000);
    }

    /** Of bytes 0 and 1, with 0 and 128 behind them. */
    private static void dueLoaded(String size, int low, int high, int want) {
        LoadsAhead x = bench("L" + size + "1,0", "");
        x.poke(0, low);
        x.poke(1, high);
        x.poke(3, 128);
        due("in order", x.plain(1), want);
        x.run(1);
        due("by a run", x.now(1), want);
    }

    private static void places() {
        sentence("A PLACE: a number; or r (114), a REGISTER, + (43), a number: the REGISTER and that, with 32 bits");
        programStands("Lb1,r", REGISTER_SIGNS);
        programStands("Lb1,r0", "+");
        programStands("Sb1,r7", "+");
        programStands("Sb1,r7+", DIGITS);
        programStands("Sb1,r7+1", DIGITS + ";");
        programStands("Sb1,1", DIGITS + ";");
        duePlace(Integer.MAX_VALUE, 0, 63);
        duePlace(Integer.MAX_VALUE, 1, 0);
        duePlace(Integer.MAX_VALUE, 9999, 14);
        duePlace(Integer.MIN_VALUE, 0, 0);
        duePlace(Integer.MIN_VALUE, 63, 63);
        sentence("where it begins is that modulo 64, 0 on (below 0, too)");
        int[] numbers = {0, 1, 62, 63, 64, 65, 127, 128, 9983, 9984, 9999};
        int[] begins = {0, 1, 62, 63, 0, 1, 63, 0, 63, 0, 15};
        for (int i = 0; i < numbers.length; i++) {
            LoadsAhead x = bench("Sb1," + numbers[i] + ";Lb2," + numbers[i], "");
            x.run(1);
            dueOps(x, 5, begins[i], begins[i]);
            duePlace(0, numbers[i], begins[i]);
        }
        duePlace(-1, 0, 63);
        duePlace(-1, 1, 0);
        duePlace(-63, 0, 1);
        duePlace(-64, 0, 0);
        duePlace(-65, 0, 63);
        duePlace(-65, 64, 63);
        duePlace(63, 0, 63);
        duePlace(64, 0, 0);
        sentence("each further byte one more, modulo 64");
        dueCovered("b", 63, 63);
        dueCovered("h", 62, 62, 63);
        dueCovered("h", 63, 63, 0);
        dueCovered("w", 60, 60, 61, 62, 63);
        dueCovered("w", 61, 61, 62, 63, 0);
        dueCovered("w", 62, 62, 63, 0, 1);
        dueCovered("w", 63, 63, 0, 1, 2);
    }

    private static void duePlace(int register, int number, int begins) {
        LoadsAhead x = bench("Sb1,r3+" + number + ";Lb2,r3+" + number, "");
        x.register(1, 99);
        x.register(3, register);
        due("in order", x.plain(100 + begins), 99);
        x.run(1);
        dueOps(x, 5, begins, begins);
        due("the byte", x.now(100 + begins), 99);
        due("that alone", x.count(11), 1);
    }

    private static void dueCovered(String size, int place, int... covered) {
        LoadsAhead x = bench("S" + size + "1," + place + ";L" + size + "2," + place, "");
        x.register(1, 0x04030201);
        int value = 0;
        for (int i = covered.length - 1; i >= 0; i--) {
            value = value << 8 | i + 1;
        }
        due("in order", x.plain(2), value);
        for (int i = 0; i < covered.length; i++) {
            due("byte " + i + " in order", x.plain(100 + covered[i]), i + 1);
        }
        x.run(1);
        due("loaded", x.now(2), value);
        for (int i = 0; i < covered.length; i++) {
            due("byte " + i, x.now(100 + covered[i]), i + 1);
        }
        due("those alone", x.count(11), covered.length);
    }

    private static void digits() {
        sentence("Numbers have one to four digits.");
        for (String sofar : new String[] {"#1,", "Lb1,", "Sw1,", "Lb1,r2+", "Sw1,r2+"}) {
            int at = sofar.length();
            dueProgram(sofar, -1000 - at);
            dueProgram(sofar + ";", -1000 - at);
            for (String number : new String[] {"0", "9", "00", "0000", "0009", "9999"}) {
                dueProgram(sofar + number, 1);
                dueProgram(sofar + number + ";#1,1", 2);
            }
            dueProgram(sofar + "00000", -2000 - at - 4);
            dueProgram(sofar + "12345", -2000 - at - 4);
            dueProgram(sofar + "123456", -2000 - at - 4);
        }
        due("0012", bench("#1,0012", "").plain(1), 12);
        due("1200", bench("#1,1200", "").plain(1), 1200);
    }

    private static void faults() {
        sentence("FAULTS, the first from the left: 1 what can't stand there (the end, too); 2 a fifth digit, at it");
        dueProgram("#8,12345", -1001);
        dueProgram("#1,12345;#8", -2007);
        dueProgram("#1,1234;#8,12345", -1009);
        dueProgram("#1,1234;Lb1,12345;;", -2016);
        dueProgram("#1,12345" + ";#1,1".repeat(20), -2007);
        String text = "#1,50;Lb2,r3+40;+1,2,3;Sw7,63";
        int[] ops = new int[text.length() + 1];
        ops[4] = 1;
        ops[5] = 1;
        ops[14] = 2;
        ops[15] = 2;
        ops[22] = 3;
        ops[28] = 4;
        ops[29] = 4;
        for (int length = 1; length <= text.length(); length++) {
            dueProgram(text.substring(0, length), ops[length] > 0 ? ops[length] : -1000 - length);
        }
        LoadsAhead x = new LoadsAhead();
        feed(x, "#1,5");
        due("the end is that of n, not of the tape", x.program(3), -1003);
        sentence("4 a 21st OP, at its first sign (if that can stand there)");
        dueProgram(ops(20), 20);
        for (char sign = 0; sign <= 255; sign++) {
            dueProgram(ops(20) + ";" + sign, OPS_BEGIN.indexOf(sign) >= 0 ? -4100 : -1100);
        }
        dueProgram(ops(20) + ";", -1100);
        dueProgram(ops(20) + ";#8", -4100);
        dueProgram(ops(20) + "x", -1099);
        dueProgram(ops(19) + ";#8", -1096);
        dueProgram(ops(22), -4100);
        String wide = "Lb1,r1+0001" + ";Lb1,r1+0001".repeat(18) + ";#1,1";
        dueProgram(wide + ";S", -4000 - wide.length() - 1);
    }

    private static void goesBy() {
        sentence("SETS (the next number is 0 again), what is watched, what is told of the last RUN go by a new one"
            + " (REGISTERS, MEMORY, RUNS stay)");
        String text = "#1,5;Sb1,0;Lb2,0";
        LoadsAhead x = bench(text, "d4(i=0);d1(k=2)");
        x.register(6, 66);
        x.poke(6, 67);
        x.watch(0, 2);
        x.watch(1, 1);
        x.watch(1, 0);
        x.run(4);
        int[] before = seen(x);
        for (String refused : new String[] {"#1,5;", "#1,12345", ops(21), ";", "#8,1"}) {
            due("refused", program(x, refused) < 0, true);
            dueSame("a program with a fault", x, before);
        }
        feed(x, text);
        before = seen(x);
        for (int n : new int[] {0, -1, 21, 241}) {
            due("refused", x.program(n), -1);
            dueSame("no such n", x, before);
        }
        due("last run", x.lastRun(1), 1);
        due("sets", x.count(8), 2);
        due("next", x.count(9), 1);
        due("watched", x.count(10), 2);
        int drawn = x.count(6);
        due("the same text is a new one, too", x.program(text.length()), 3);
        dueCounts(x, 1, 3, 1, 1, 2, 0, drawn, 1, 0, 0, 0, 2);
        dueOps(x, 1, -2, -2, -2);
        due("watched", x.watched(0, 0, 6), -4);
        due("watched", x.watched(1, 0, 6), -4);
        for (int what = 0; what < 6; what++) {
            due("lastRun", x.lastRun(what), -2);
        }
        due("worst", x.worst(0), -2);
        for (int what = 2; what < 6; what++) {
            dueOps(x, what, -2, -2, -2);
        }
        due("opIs", x.opIs(2, 10), -2);
        due("register", x.now(1), 5);
        due("register", x.now(2), 5);
        due("register", x.now(6), 66);
        due("memory", x.now(100), 5);
        due("memory", x.now(106), 67);
        x.run(4);
        due("the next set is 0 again", x.opIs(2, 1), 0);
    }

    public static void main(String[] args) {
        registers();
        memory();
        opsAtMost();
        textAtMost();
        between();
        number();
        reckoning();
        moves();
        places();
        digits();
        faults();
        goesBy();
        end();
    }
}
