/** The sentences of the document that name bounds of the law: its text, what it reckons, its faults. */
public final class LawBoundsTest extends Bench {
    private static final String DIGITS = "0123456789";
    private static final String LETTERS = "ikcsnrw";
    private static final String FACTOR = DIGITS + LETTERS + "[";
    private static final String TEST = FACTOR + "(!";
    private static final String JOINS = "+-*/%";

    private static void textAtMost() {
        sentence("THE LAW: a TEXT of at most 240 bytes, no blanks (none at first)");
        due("rules at first", new LoadsAhead().count(4), 0);
        String longest = "d10" + "+0".repeat(116) + "(i=i)";
        due("its length", longest.length(), 240);
        dueLaw(longest, 1);
        dueDelay(longest, 10);
        dueDelay("d3+" + "[".repeat(6) + "4" + "]".repeat(6) + "*1".repeat(109) + "(1>0)", 7);
        LoadsAhead x = new LoadsAhead();
        feed(x, longest + ";d5(i=i)");
        due("law(241)", x.law(241), -1);
        due("the tape stays", x.count(5), 260);
        due("law(240), whatever follows", x.law(240), 1);
        feed(x, longest + ";d5(i=i)");
        due("law(239): it ends at 239, whatever follows", x.law(239), -1239);
        String text = "d5+i*[2-k](i=10|!k<2&(c>3));x(s=16)";
        dueLaw(text, 2);
        for (int at = 0; at <= text.length(); at++) {
            for (char blank : new char[] {' ', '\t', '\n', '\r', 0, 160}) {
                dueLaw(text.substring(0, at) + blank + text.substring(at), -1000 - at);
            }
        }
    }

    private static String rules(int many) {
        return "d9(i>5)" + ";x(i=9)".repeat(many - 1);
    }

    private static void rulesAtMost() {
        sentence("RULES (16 at most) with a ; (59) between two: a letter, E, and (C), of x only (C)");
        for (int many = 1; many <= 16; many++) {
            LoadsAhead x = new LoadsAhead();
            due("law", law(x, rules(many)), many);
            due("rules", x.count(4), many);
        }
        dueLaw(rules(17), -4113);
        lawStands("", "dx");
        lawStands("d", FACTOR);
        lawStands("x", "(");
        lawStands("x(i=i)", ";");
        lawStands("d1(i=i)", ";");
        lawStands("x(i=i);", "dx");
        lawStands("d1(i=i);", "dx");
        dueDelay("d5(i=1);".repeat(15) + "d6(i=0)", 6);
        dueLaw("x(i=i):x(i=i)", -1006);
        dueLaw("x(i=i);;x(i=i)", -1007);
        dueLaw(";x(i=i)", -1000);
        dueLaw("x(i=i);", -1007);
    }

    private static void inPlaceOfTheOneBefore() {
        sentence("in place of the one before: how many RULES");
        LoadsAhead x = bench("#1,1", "d7(i=i);x(i=i)");
        int[] before = seen(x);
        due("a fault", law(x, "d8(i=i)d"), -1007);
        dueSame("a law with a fault", x, before);
        due("a fault behind a rule", law(x, "d8(i=i);d8(i=i);d8(i=i"), -1022);
        dueSame("a law with a fault", x, before);
        due("too many", law(x, rules(17)), -4113);
        dueSame("a law with a fault", x, before);
        due("still", x.tried(1, 0), 8);
        due("a shorter one", law(x, "d3(i=i)"), 1);
        due("in its place", x.tried(1, 0), 4);
        due("rules", x.count(4), 1);
        due("without a d", law(x, "x(i=i)"), 1);
        due("in its place", x.tried(1, 0), 2);
        LoadsAhead ahead = bench("#1,1;Sb2,0", "d9(i=0);x(i=1);x(i=1)");
        due("held back", ahead.tried(4, 3), 0);
        due("without an x", law(ahead, "d9(i=0)"), 1);
        due("not held back", ahead.tried(4, 3), 1);
        due("an x ahead of the d", law(ahead, "x(i=1);d9(i=0)"), 2);
        due("held back", ahead.tried(4, 3), 0);
    }

    private static void delays() {
        sentence("d how many CYCLES an OP takes (1 to 20; none: 1; a load: 2)");
        for (String program : new String[] {"#1,1", "+1,1,1", ">1,1,1", "Lb1,0", "Lw1,r1+0", "Sb1,0", "Sw1,r1+0"}) {
            int none = program.startsWith("L") ? 2 : 1;
            due("no law", bench(program, "").run(1), none + 1);
            dueDelay(program, "x(i=i)", none);
            dueDelay(program, "d9(i=1)", none);
            dueDelay(program, "d9(1/0=0)", none);
            dueDelay(program, "d1(i=0)", 1);
            dueDelay(program, "d2(i=0)", 2);
            dueDelay(program, "d19(i=0)", 19);
            dueDelay(program, "d20(i=0)", 20);
        }
        sentence("of the first RULE of d whose C holds the E (beyond its bounds the bound)");
        dueDelay("d21(i=i)", 20);
        dueDelay("d99999(i=i)", 20);
        dueDelay("d46340*46341(i=i)", 20);
        dueDelay("d0(i=i)", 1);
        dueDelay("d0-1(i=i)", 1);
        dueDelay("d0-99999(i=i)", 1);
        dueDelay("d65536*32768(i=i)", 1);
        dueDelay("Lb1,0", "d0(i=i)", 1);
        dueDelay("d3(i=1);d4(i=0);d5(i=0)", 4);
        dueDelay("x(i=0);d3(i=1);x(i=0);d5(i=0)", 5);
        dueDelay("d0(i=0);d5(i=0)", 1);
    }

    private static void conditions() {
        sentence("C: PARTS with a | between two, one of which must hold");
        dueHolds("0=1", false);
        dueHolds("0=0", true);
        dueHolds("0=0|0=1", true);
        dueHolds("0=1|0=0", true);
        dueHolds("0=1|0=1", false);
        dueHolds("0=1|0=1|0=0", true);
        dueHolds("0=1|0=0|0=1", true);
        dueHolds("0=0" + "|0=1".repeat(40), true);
        dueHolds("0=1|".repeat(40) + "0=0", true);
        dueHolds("0=1" + "|0=1".repeat(40), false);
        sentence("a PART: TESTS with an & between two, all of which must");
        dueHolds("0=0&0=0", true);
        dueHolds("0=0&0=1", false);
        dueHolds("0=1&0=0", false);
        dueHolds("0=0&0=0&0=1", false);
        dueHolds("0=0" + "&0=0".repeat(40), true);
        dueHolds("0=0&".repeat(40) + "0=1", false);
        dueHolds("0=1" + "&0=0".repeat(40), false);
        dueHolds("0=0|0=1&0=1", true);
        dueHolds("0=1&0=1|0=0", true);
        dueHolds("0=1&0=0|0=0&0=1", false);
        sentence("a TEST: !TEST, (C), or E, one of < > =, and E");
        dueHolds("4<5", true);
        dueHolds("5<5", false);
        dueHolds("6<5", false);
        dueHolds("4>5", false);
        dueHolds("5>5", false);
        dueHolds("6>5", true);
        dueHolds("4=5", false);
        dueHolds("5=5", true);
        dueHolds("6=5", false);
        dueHolds("0-1<0", true);
        dueHolds("0-32768*65536<32767*65536", true);
        dueHolds("!0=1", true);
        dueHolds("!4<5", false);
        dueHolds("!5<5", true);
        dueHolds("!6>5", false);
        dueHolds("!5>5", true);
        dueHolds("!0=0", false);
        dueHolds("!!0=0", true);
        dueHolds("!!!!!0=0", false);
        dueHolds("!0=1&0=1", false);
        dueHolds("!(0=1&0=1)", true);
        dueHolds("!0=0|0=0", true);
        dueHolds("!(0=0|0=0)", false);
        dueHolds("(0=0|0=1)&0=1", false);
        dueHolds("0=1&(0=1|0=0)", false);
        dueHolds("!(0=1)&!(!(0=0))", true);
        lawStands("x(", TEST);
        lawStands("x(!", TEST);
        lawStands("x((", TEST);
        lawStands("x(i", JOINS + "<>=");
        lawStands("x(i=", FACTOR);
        lawStands("x(i=i", JOINS + "&|)");
        lawStands("x((i=i", JOINS + "&|)");
        lawStands("x((i=i)", "&|)");
        lawStands("x(!i=i", JOINS + "&|)");
        lawStands("x(i=i&", TEST);
        lawStands("x(i=i|", TEST);
    }

    private static void dueHolds(String condition, boolean want) {
        dueDelay("d5(" + condition + ");d7(i=i)", want ? 5 : 7);
        LoadsAhead x = bench("#1,1;Sb2,0", "d9(i=0);x(" + condition + ")");
        x.run(4);
        due("retired ahead by x(" + condition + ")", x.lastRun(3), want ? 0 : 1);
    }

    private static void sums() {
        sentence("E: TERMS with + or - between two; a TERM: FACTORS with one of * / % between two; from the left on");
        dueDelay("d9-4-3(i=i)", 2);
        dueDelay("d9-4+3(i=i)", 8);
        dueDelay("d9-[4+3](i=i)", 2);
        dueDelay("d16/4/2(i=i)", 2);
        dueDelay("d16/4*2(i=i)", 8);
        dueDelay("d2*9/4(i=i)", 4);
        dueDelay("d17%5*2(i=i)", 4);
        dueDelay("d2*7%5(i=i)", 4);
        dueDelay("d17%10%4(i=i)", 3);
        dueDelay("d2+3*4(i=i)", 14);
        dueDelay("d3*4+2(i=i)", 14);
        dueDelay("d20-6/3(i=i)", 18);
        dueDelay("d20-6%4*3(i=i)", 14);
        dueDelay("d20-12/4-2*3-1(i=i)", 10);
        sentence("a FACTOR: [E], a number of one to five digits, or a letter");
        dueDelay("d[2+3]*4(i=i)", 20);
        dueDelay("d[[9]-[[4]]](i=i)", 5);
        dueDelay("d99999-99984(i=i)", 15);
        dueDelay("d00009(i=i)", 9);
        dueDelay("d90000-89991(i=i)", 9);
        lawStands("d[", FACTOR);
        lawStands("d[i", JOINS + "]");
        lawStands("d[i]", JOINS + "(");
        lawStands("d[[i]", JOINS + "]");
        lawStands("di", JOINS + "(");
        lawStands("d1", DIGITS + JOINS + "(");
        lawStands("d9999", DIGITS + JOINS + "(");
        lawStands("x(9999", DIGITS + JOINS + "<>=");
        lawStands("x([9", DIGITS + JOINS + "]");
        for (char join : JOINS.toCharArray()) {
            lawStands("d1" + join, FACTOR);
            lawStands("x(i=i" + join, FACTOR);
        }
    }

    private static void letters() {
        sentence("i the OP");
        LoadsAhead all = bench("#1,1" + ";#1,1".repeat(19), "d1+i(i=i)");
        all.run(1);
        for (int op = 0; op < 20; op++) {
            due("done", all.opIs(op, 2), op + Math.min(20, 1 + op));
        }
        due("op 19 is asked with 19", bench("#1,1" + ";#1,1".repeat(19), "d9(i=19)").run(1), 29);
        due("no op is 20", bench("#1,1" + ";#1,1".repeat(19), "d9(i=20)").run(1), 21);
        sentence("k its KIND (0 #, 1 others that reckon, 2 load, 3 store)");
        String[] kinds = {"#1,1", "+1,1,1", "-1,1,1", "*1,1,1", "&1,1,1", "^1,1,1", ">1,1,1", "Lb1,0", "Sb1,0"};
        int[] numbers = {0, 1, 1, 1, 1, 1, 1, 2, 3};
        for (int i = 0; i < kinds.length; i++) {
            dueDelay(kinds[i], "d5+k(i=i)", 5 + numbers[i]);
            due("kind", bench(kinds[i], "").opIs(0, 0), numbers[i]);
        }
        sentence("c the CYCLE modulo 100");
        String chain = "+1,1,1" + ";+1,1,1".repeat(5);
        due("c is 0 at first", bench("#1,1", "d3(c=0);d4(i=i)").run(1), 4);
        due("98", bench(chain, "d20(i<4);d18(i=4);d5(c=98);d7(i=i)").run(1), 104);
        due("99", bench(chain, "d20(i<4);d19(i=4);d5(c=99);d7(i=i)").run(1), 105);
        due("100", bench(chain, "d20(i<5);d5(c=0);d7(i=i)").run(1), 106);
        due("100 itself never", bench(chain, "d20(i<5);d5(c=100);d7(i=i)").run(1), 108);
        due("101", bench(chain + ";#2,0;+1,1,2", "d20(i<5);d1(i=5);d4(c=1);d7(i=i)").run(1), 106);
        sentence("n how often it was REPLAYED in this RUN");
        LoadsAhead n = bench("Sb1,0;Sb1,0;Lb2,0", "d4(i=0);d9(i=1);d1+n*2(i=2)");
        // done at 1, wrong at 4: off till 7, wrong at 9: off till 14
        due("n is 0, 1, 2", n.run(4), 15);
        dueOps(n, 3, 0, 0, 2);
        n.forget();
        due("from 0 on again", n.run(4), 15);
    }

    private static void lettersThatChange() {
        sentence("s its SET (none: 16)");
        dueDelay("ds(i=i)", 16);
        dueDelay("d9(s=16);d3(i=i)", 9);
        LoadsAhead s = bench("Sb1,0;Lb2,0", "d4(i=0);d1(i=1)");
        for (int set = 0; set <= 16; set++) {
            s.run(4);
            due("the set", s.opIs(1, 1), set % 16);
            due("law", law(s, "d3+s(i=0);d1(i=1)"), 2);
            due("the store is asked with its set", s.tried(1, 0), 3 + set % 16 + 1 + 1);
            law(s, "d4(i=0);d1(i=1)");
            s.forget();
        }
        LoadsAhead learns = bench("#1,5;Sb1,0;Lb2,0", "d4(i=0);d1(k=2&s=16);d7(s=0)");
        due("as it is by then: the load goes off at 5 with 0", learns.run(4), 13);
        LoadsAhead store = bench("Sb1,0;Lb2,0;#3,1;+3,3,3;Sb1,1", "d4(i=0);d9(i=2);x(s=16&i=4)");
        store.run(4);
        due("x is asked with it, too", store.lastRun(3), 0);
        sentence("r RUNS so far (without this one) modulo 100");
        LoadsAhead r = bench("#1,1", "d3(r=0);d4(r=1);d5(r=98);d6(r=99);d7(r>99);d1(i=i)");
        for (int runs = 0; runs <= 201; runs++) {
            int known = runs % 100 == 0 ? 3 : runs % 100 == 1 ? 4 : runs % 100 == 98 ? 5 : runs % 100 == 99 ? 6 : 1;
            due("tried with " + runs + " runs", r.tried(1, 0), known + 1);
            due("run with " + runs + " runs", r.run(1), known + 1);
        }
        sentence("w the DRAW");
        int[] seeds = {25, 12, 1, 28, 15, 2, 33, 20, 7, 0};
        for (int draw = 0; draw < 10; draw++) {
            LoadsAhead w = bench("#1,1", "d3+w(i=i)");
            w.seed(seeds[draw]);
            due("w is " + draw, w.run(1), 3 + draw + 1);
        }
        due("never 10", bench("#1,1", "d3(w>9);d3(w<0);d5(i=i)").run(1), 6);
    }

    private static void bits() {
        sentence("All is reckoned with 32 bits, as the machine does");
        dueHolds("46340*46340>0", true);
        dueHolds("46341*46341<0", true);
        dueHolds("65536*65536=0", true);
        dueHolds("32767*65536+65535>0", true);
        dueHolds("32767*65536+65535+1<0", true);
        dueHolds("0-32768*65536<0", true);
        dueHolds("0-32768*65536-1>0", true);
        dueHolds("[0-7]/2=0-3", true);
        dueHolds("[0-7]%2=0-1", true);
        dueHolds("7/[0-2]=0-3", true);
        dueHolds("7%[0-2]=1", true);
        dueHolds("[0-32768*65536]/[0-1]<0", true);
        dueHolds("[0-32768*65536]%[0-1]=0", true);
    }

    private static void refused() {
        sentence("what is divided by 0 is REFUSED: then the whole C of the RULE does not hold, the E of it is 0");
        for (String by : new String[] {"/", "%"}) {
            dueDelay("d9+5" + by + "1(i=i)", by.equals("/") ? 14 : 9);
            dueDelay("d9+5" + by + "0(i=i)", 1);
            dueDelay("d9+5" + by + "[0-1](i=i)", by.equals("/") ? 4 : 9);
            dueDelay("d5" + by + "0+9(i=i)", 1);
            dueDelay("d9+0*[5" + by + "i](i=i)", 1);
            dueDelay("Lb1,0", "d0" + by + "0(i=i);d8(i=i)", 1);
            dueHolds("5" + by + "1<6", true);
            dueHolds("5" + by + "0<6", false);
            dueHolds("5" + by + "[0-1]<6", true);
            dueHolds("0" + by + "0=0", false);
            dueHolds("0=5" + by + "0", false);
            dueHolds("!5" + by + "0<6", false);
            dueHolds("!!5" + by + "0<6", false);
            dueHolds("!(0=0&5" + by + "0=0)", false);
            dueHolds("5" + by + "0=0|0=0", false);
            dueHolds("0=1|5" + by + "0=0|0=0", false);
            dueHolds("0=0&5" + by + "0=0|0=0", false);
            dueHolds("(5" + by + "0=0)|0=0", false);
        }
        dueDelay("d5(1/0=0);d6(1%0=0);d7(i=0)", 7);
        LoadsAhead any = bench("#1,1;Sb2,0", "d9(i=0);x(1/0=0);x(i=1)");
        any.run(4);
        due("the next x is asked all the same", any.lastRun(3), 0);
        sentence("Of a C as much is asked, from the left, as matters.");
        dueHolds("0=0|1/0=0", true);
        dueHolds("0=0|0=1|1/0=0", true);
        dueHolds("0=0&0=0|1/0=0", true);
        dueHolds("0=1&1/0=0", false);
        dueHolds("0=1&1/0=0|0=0", true);
        dueHolds("0=1&0=0&1/0=0|0=0", true);
        dueHolds("(0=0|1/0=0)&0=0", true);
        dueHolds("!(0=1&1/0=0)", true);
        dueHolds("!(0=0|1/0=0)|0=0", true);
        dueHolds("0=1&(1/0=0|0=0)|0=0", true);
        dueHolds("0=0|(0=0&1/0=0)", true);
        dueHolds("0=0&(0=1|1/0=0)|0=0", false);
    }

    private static void faults() {
        sentence("FAULTS, the first from the left: 1 what can't stand there (the end, too); 2 a sixth digit, at it;"
            + " 4 a 17th RULE, at its letter (if that can stand there)");
        String text = "d5+i*[2-k](i=10|!k<2&(c>3));x(s=16)";
        for (int length = 1; length <= text.length(); length++) {
            int rules = length == 27 ? 1 : length == 35 ? 2 : 0;
            dueLaw(text.substring(0, length), rules > 0 ? rules : -1000 - length);
        }
        dueLaw("d123456(i=i", -2006);
        dueLaw("d(123456", -1001);
        dueLaw("d12345(i=i", -1010);
        for (String sofar : new String[] {"d", "d[", "d1+", "d1(", "d1(i=", "x(", "x(i<[", "x(!"}) {
            int at = sofar.length();
            dueLaw(sofar + "99999", -1000 - at - 5);
            dueLaw(sofar + "000000", -2000 - at - 5);
            dueLaw(sofar + "1234567", -2000 - at - 5);
        }
        for (char sign = 0; sign <= 255; sign++) {
            dueLaw(rules(16) + ";" + sign, sign == 'd' || sign == 'x' ? -4113 : -1113);
        }
        dueLaw(rules(16) + ";", -1113);
        dueLaw(rules(16) + "d", -1112);
        dueLaw(rules(16) + ";x(((((((", -4113);
        dueLaw(rules(15) + ";d123456", -2112);
        LoadsAhead x = new LoadsAhead();
        feed(x, "x(i=i)");
        due("the end is that of n, not of the tape", x.law(5), -1005);
    }

    private static void open() {
        sentence("5 a seventh of ( [ ! that are open in one another, at it (the ( of the RULE counts; a ! is open till"
            + " its TEST ends; the E of a RULE stands ahead of it)");
        dueLaw("x(" + "(".repeat(4) + "i=i" + ")".repeat(4) + ")", 1);
        dueLaw("x(" + "(".repeat(5) + "i=i" + ")".repeat(5) + ")", 1);
        dueLaw("x(" + "(".repeat(6) + "i=i" + ")".repeat(6) + ")", -5007);
        dueLaw("x(" + "(".repeat(9), -5007);
        dueLaw("x(" + "!".repeat(5) + "i=i)", 1);
        dueLaw("x(" + "!".repeat(6) + "i=i)", -5007);
        dueLaw("x(" + "[".repeat(5) + "i" + "]".repeat(5) + "=i)", 1);
        dueLaw("x(" + "[".repeat(6) + "i" + "]".repeat(6) + "=i)", -5007);
        dueLaw("x(i=" + "[".repeat(5) + "i" + "]".repeat(5) + ")", 1);
        dueLaw("x(i=" + "[".repeat(6) + "i" + "]".repeat(6) + ")", -5009);
        dueLaw("d" + "[".repeat(6) + "i" + "]".repeat(6) + "(i=i)", 1);
        dueLaw("d" + "[".repeat(7) + "i" + "]".repeat(7) + "(i=i)", -5007);
        dueLaw("d" + "[".repeat(6) + "i" + "]".repeat(6) + "(" + "(".repeat(5) + "i=i" + ")".repeat(6), 1);
        dueLaw("d1(!(!([i]=i)))", 1);
        dueLaw("d1(!(!([[i]]=i)))", -5008);
        dueLaw("x(!(!(!i=i)))", 1);
        dueLaw("x(!(!(!!i=i)))", -5007);
        dueLaw("x(!(!((i=i))))", 1);
        dueLaw("x(!(!(!(i=i))))", -5007);
        dueLaw("x(!!!!!i=[i])", -5009);
        dueLaw("x(!!!!i=[i])", 1);
        dueLaw("x(!!!![i]=[i])", 1);
        dueLaw("x(!!!!!i=i&[i]=i)", 1);
        dueLaw("x(!!!!!i=i|!!!!!i=i)", 1);
        dueLaw("x(!!!!!i=i|!!!!!!i=i)", -5016);
        dueLaw("x(!!!!(i=i)&(((((i=i))))))", 1);
        dueLaw("x((((((i=i)&(i=i))))))", 1);
        dueLaw("x((((((i=i)&((i=i)))))))", -5013);
        dueLaw("x(i=i" + "&!i=i".repeat(20) + ")", 1);
        dueLaw("x([i]" + "+[i]".repeat(20) + "=i)", 1);
        dueLaw("x((i=i)" + "&(i=i)".repeat(20) + ")", 1);
        dueLaw("x(!!!!!i=i);x(!!!!!i=i)", 2);
        dueLaw("x(!!!!!i=(", -1009);
        dueLaw("x(!!!!!i=!", -1009);
        dueLaw("x(!!!!!i[", -1008);
        dueLaw("x(!!!!!i=i(", -1010);
        dueLaw("d[[[[[[(", -1007);
    }

    public static void main(String[] args) {
        textAtMost();
        rulesAtMost();
        inPlaceOfTheOneBefore();
        delays();
        conditions();
        sums();
        letters();
        lettersThatChange();
        bits();
        refused();
        faults();
        open();
        end();
    }
}
