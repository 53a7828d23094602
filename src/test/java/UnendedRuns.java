/** What the document says of runs that do not end, on a copy of the class in which an op may take longer. */
public final class UnendedRuns extends Bench {
    /** Op 2 goes wrong at 5 and learns, store 4 is retired ahead; op 5 is late. */
    private static final String PROGRAM = "#1,5;Sb1,0;Lb2,0;#4,1;Sb5,1;+3,2,2";

    private static void lastCycle() {
        sentence("CYCLE 0, 1, .. (2000 is the last)");
        due("done at 1999", bench("#1,1", "d1999(i=i)").run(1), 2000);
        due("done at 2000", bench("#1,1", "d2000(i=i)").run(1), 2001);
        due("done at 2001", bench("#1,1", "d2001(i=i)").run(1), -5);
        due("done at 2000", bench("+1,1,1;+1,1,1", "d1000(i=i)").run(1), 2001);
        due("done at 2001", bench("+1,1,1;+1,1,1", "d1000+i(i=i)").run(1), -5);
        due("retired at 2000", bench("#2,1;Sb1,0;Sb1,1", "d1999(i=0);x(i=i)").run(4), 2001);
        due("retired at 2001", bench("#2,1;Sb1,0;Sb1,1", "d2000(i=0);x(i=i)").run(4), -5);
        due("retired ahead", bench("#2,1;Sb1,0;Sb1,1", "d2000(i=0)").run(4), 2001);
    }

    private static LoadsAhead learnt() {
        LoadsAhead x = bench(PROGRAM, "d4(i=0);d1(k=2)");
        x.register(5, 50);
        x.register(7, 77);
        x.run(4);
        x.forget();
        x.watch(0, 2);
        x.poke(0, 9);
        x.register(3, 33);
        return x;
    }

    private static void allAsBefore() {
        sentence("(is it not so behind CYCLE 2000: -5, all is as before the RUN but X)");
        LoadsAhead x = learnt();
        law(x, "d4(i=0);d1(k=2);d9999(i=5)");
        x.seed(1);
        int[] before = seen(x);
        due("ends not", x.tried(4, 0), -5);
        due("run", x.run(4), -5);
        // six ops, of which 2 and 5 go off twice
        due("X", x.count(6), 19417);
        x.seed(1);
        dueSame("a run that did not end", x, before);
        due("runs", x.count(0), 1);
        due("the last that ended", x.lastRun(0), 8);
        due("no set is learnt", x.count(8), 0);
        law(x, "d4(i=0);d1(k=2)");
        due("a run that ends", x.run(4), 8);
        due("runs", x.count(0), 2);
    }

    private static void tried() {
        sentence("(where it does not end: -5 of all but 10 + r, 100 + at, that are as now)");
        LoadsAhead x = learnt();
        law(x, "d4(i=0);d1(k=2);d9999(i=5)");
        int[] before = seen(x);
        for (int wide = 1; wide <= 4; wide++) {
            for (int what = 0; what <= 5; what++) {
                due("tried(" + wide + ", " + what + ")", x.tried(wide, what), -5);
            }
            for (int r = 0; r < 8; r++) {
                due("tried register " + r, x.tried(wide, 10 + r), x.now(r));
            }
            for (int at = 100; at < 164; at++) {
                due("tried memory " + at, x.tried(wide, at), x.now(at));
            }
        }
        due("register 3", x.tried(4, 13), 33);
        due("memory 0", x.tried(4, 100), 9);
        for (int what : new int[] {-1, 6, 9, 18, 99, 164}) {
            due("no such what", x.tried(4, what), -1);
        }
        due("no such wide", x.tried(5, 0), -1);
        dueSame("tried", x, before);
    }

    private static void others() {
        sentence("UNLIKE so WIDE; -5: it does not end; NONE: no such WIDE, no PROGRAM.");
        LoadsAhead x = learnt();
        law(x, "d4(i=0);d1(k=2);d9999(i=5)");
        int[] before = seen(x);
        for (int wide = 1; wide <= 4; wide++) {
            due("unlike(" + wide + ")", x.unlike(wide), -5);
        }
        due("unlike(0)", x.unlike(0), -1);
        due("unlike(5)", x.unlike(5), -1);
        sentence("CAUTIOUS so WIDE, what as tried() 0 to 5; -5: it does not end; NONE: no such ones, no PROGRAM.");
        for (int what = 0; what <= 5; what++) {
            due("cautious(4, " + what + ")", x.cautious(4, what), -5);
        }
        due("cautious(4, 6)", x.cautious(4, 6), -1);
        due("cautious(5, 0)", x.cautious(5, 0), -1);
        sentence("FASTEST, what 0 WIDE, 1 CYCLES; -5: none ends; NONE: no such what, no PROGRAM.");
        due("fastest(0)", x.fastest(0), -5);
        due("fastest(1)", x.fastest(1), -5);
        due("fastest(2)", x.fastest(2), -1);
        dueSame("calls that look", x, before);
        dueFastest("d9999(c=0&i>0)", 1, 5);
        dueFastest("d9999(c=0&i=3)", 2, 3);
        dueFastest("d9999(c=0&i=2)", 2, 3);
        dueFastest("d9999(c>0)", 4, 2);
        dueFastest("d9999(c>1)", 4, 2);
        dueFastest("d9999(c=0&i=3|c=1)", -5, -5);
    }

    private static void dueFastest(String law, int wide, int cycles) {
        LoadsAhead x = bench("#1,1;#2,1;#3,1;#4,1", law);
        due("fastest(0) by " + law, x.fastest(0), wide);
        due("fastest(1) by " + law, x.fastest(1), cycles);
    }

    /** How many answers were not as due. */
    public static int test() {
        lastCycle();
        allAsBefore();
        tried();
        others();
        return wrong();
    }
}
