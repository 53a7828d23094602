/** For each promise of the document ordinary inputs, edges and wrong inputs, reckoned by hand. */
public final class PromisesTest extends Bench {
    /** What lastRun() tells, 0 to 5. */
    private static void dueLast(String name, LoadsAhead x, int... wanted) {
        for (int what = 0; what < wanted.length; what++) {
            due(name + " lastRun(" + what + ")", x.lastRun(what), wanted[what]);
        }
    }

    private static void dueCounts(String name, LoadsAhead x, int... wanted) {
        for (int what = 0; what < wanted.length; what++) {
            due(name + " count(" + what + ")", x.count(what), wanted[what]);
        }
    }

    private static void promise1() {
        LoadsAhead x = new LoadsAhead();
        dueCounts("new", x, 0, 0, 0, 0, 0, 0, 1, 0, 0, 0, 0, 0);
        for (int r = 0; r < 8; r++) {
            due("now", x.now(r), 0);
        }
        for (int at = 100; at < 164; at++) {
            due("now", x.now(at), 0);
        }
        due("undo", x.undo(), false);
        due("lastRun", x.lastRun(0), -2);
        due("deep", x.deep(), 0);
        due("NONE", LoadsAhead.NONE, -1);
    }

    private static void promise2() {
        LoadsAhead x = new LoadsAhead();
        due("register 0", x.register(0, Integer.MIN_VALUE), true);
        due("register 7", x.register(7, Integer.MAX_VALUE), true);
        due("now 0", x.now(0), Integer.MIN_VALUE);
        due("now 7", x.now(7), Integer.MAX_VALUE);
        due("register -1", x.register(-1, 5), false);
        due("register 8", x.register(8, 5), false);
        due("register max", x.register(Integer.MAX_VALUE, 5), false);
        due("now 1", x.now(1), 0);
    }

    private static void promise3() {
        LoadsAhead x = new LoadsAhead();
        due("poke 0", x.poke(0, 255), true);
        due("poke 63", x.poke(63, 1), true);
        due("poke 5", x.poke(5, 0), true);
        due("now 100", x.now(100), 255);
        due("now 163", x.now(163), 1);
        due("poke -1", x.poke(-1, 1), false);
        due("poke 64", x.poke(64, 1), false);
        due("poke 256", x.poke(0, 256), false);
        due("poke below 0", x.poke(0, -1), false);
        due("now 100", x.now(100), 255);
        due("not 0", x.count(11), 2);
    }

    private static void promise4() {
        LoadsAhead x = new LoadsAhead();
        for (int i = 1; i <= 13; i++) {
            due("feed", x.feed(1, 2, 3, 4, 5), 20 * i);
        }
        due("feed more", x.feed(1, 2, 3, 4, 5), -1);
        due("bytes", x.count(5), 260);
        LoadsAhead y = new LoadsAhead();
        for (int at = 0; at < 20; at++) {
            y.poke(at, 240 + at - (at > 15 ? 100 : 0));
        }
        y.feed(0xf0f1f2f3, 0xf4f5f6f7, 0xf8f9fafb, 0xfcfdfeff, 0x9c9d9e9f);
        due("in order", y.check(20), -1);
    }

    private static void promise5() {
        LoadsAhead x = new LoadsAhead();
        x.feed(0x6435283d, 0, 0, 0, 0);
        due("law 0", x.law(0), -1);
        due("law -1", x.law(-1), -1);
        due("law 21", x.law(21), -1);
        due("law 241", x.law(241), -1);
        due("tape stays", x.count(5), 20);
        due("law fault", x.law(4), -1003);
        due("tape goes", x.count(5), 0);
        due("law of none", x.law(1), -1);
        LoadsAhead y = bench("#1,1", "d7(i=i)");
        due("fault", law(y, "d8(i=i"), -1006);
        due("the one before stays", y.tried(1, 0), 8);
        due("rules stay", y.count(4), 1);
        due("new law", law(y, "x(i=i);d9(i=i)"), 2);
        due("in its place", y.tried(1, 0), 10);
        for (int i = 0; i < 13; i++) {
            y.feed(0, 0, 0, 0, 0);
        }
        due("241 of 260", y.law(241), -1);
        due("240 of 260", y.law(240), -1000);
        lawFaults();
        lawReckoning();
        lawLetters();
    }

    private static void lawFaults() {
        dueLaw("d(i=i)", -1001);
        dueLaw("d5", -1002);
        dueLaw("d5(", -1003);
        dueLaw("d5()", -1003);
        dueLaw("d5(i", -1004);
        dueLaw("d5(i)", -1004);
        dueLaw("d5(i=", -1005);
        dueLaw("d5(i=i)x", -1007);
        dueLaw("d5(i=i);", -1008);
        dueLaw("d5(i=i);z", -1008);
        dueLaw("d5(i==i)", -1005);
        dueLaw("d5(i=i=i)", -1006);
        dueLaw("d5((i)=i)", -1005);
        dueLaw("d(5)(i=i)", -1001);
        dueLaw("d[5)(i=i)", -1003);
        dueLaw("d5](i=i)", -1002);
        dueLaw("d5([i=i])", -1005);
        dueLaw("x3(i=i)", -1001);
        dueLaw("x (i=i)", -1001);
        dueLaw("d-1(i=i)", -1001);
        dueLaw("d5(i=i|)", -1007);
        dueLaw("d5(i=i&&i=i)", -1007);
        dueLaw("d5(!i)", -1005);
        dueLaw("dj(i=i)", -1001);
        dueLaw("d5i(i=i)", -1002);
        dueLaw("d99999(i=i)", 1);
        dueLaw("d999990(i=i)", -2006);
        dueLaw("d00000(000000=0)", -2012);
        dueLaw("x(!!!!!i=i)", 1);
        dueLaw("x(!!!!!!i=i)", -5007);
        dueLaw("x(!!!!!i=[i])", -5009);
        dueLaw("x(!!!!!i=i&!!!!!i=i)", 1);
        dueLaw("x(!!(!!i=i))", 1);
        dueLaw("x(!!(!!!i=i))", -5007);
        dueLaw("x(((((([i]=i))))))", -5007);
        dueLaw("x((((([i]=i)))))", 1);
        dueLaw("d[[[[[[[i]]]]]]](i=i)", -5007);
        dueLaw("d[[[[[[i]]]]]](i=i)", 1);
        dueLaw("d5(i=i)" + ";x(i=i)".repeat(15), 16);
        dueLaw("d5(i=i)" + ";x(i=i)".repeat(16), -4000 - 113);
        dueLaw("d5(i=i)" + ";x(i=i)".repeat(15) + ";y", -1000 - 113);
        dueLaw("d5(i=i)" + ";x(i=i)".repeat(15) + ";", -1000 - 113);
    }

    private static void lawReckoning() {
        dueDelay("x(i=i)", 1);
        dueDelay("d2+3*4-1(i=i)", 13);
        dueDelay("d20-2*3/2%2(i=i)", 19);
        dueDelay("d20-3-2(i=i)", 15);
        dueDelay("d[1+2]*3(i=i)", 9);
        dueDelay("d20(i=i)", 20);
        dueDelay("d21(i=i)", 20);
        dueDelay("d99999*99999(i=i)", 20);
        dueDelay("d50000*50000(i=i)", 1);
        dueDelay("d0(i=i)", 1);
        dueDelay("d0-5(i=i)", 1);
        dueDelay("d5/0(i=i);d7(i=i)", 1);
        dueDelay("d9+5%0(i=i)", 1);
        dueDelay("d5(1/0=0);d7(i=i)", 7);
        dueDelay("d5(!1/0=1);d7(i=i)", 7);
        dueDelay("d5(1/0=0|i=i);d7(i=i)", 7);
        dueDelay("d5(i=i|1/0=0);d7(i=i)", 5);
        dueDelay("d5(i=1&1/0=0|i=0);d7(i=i)", 5);
        dueDelay("d5(i=0&!(i=0|1/0=0)|i=0);d7(i=i)", 5);
        dueDelay("d5(i=0|i=1&i=1);d7(i=i)", 5);
        dueDelay("d5((i=0|i=1)&i=1);d7(i=i)", 7);
        dueDelay("d5(!i=1&i=1);d7(i=i)", 7);
        dueDelay("d5(!(i=1&i=1));d7(i=i)", 5);
        dueDelay("d5(!!i=0);d7(i=i)", 5);
        dueDelay("d5(1<1);d6(1>1);d7(1=1)", 7);
        dueDelay("d5(1<2&2>1);d7(i=i)", 5);
        dueDelay("d5([0-7]/2=0-3&[0-7]%2=0-1);d7(i=i)", 5);
        dueDelay("d3(50000*50000<0);d4(i=i)", 3);
        dueDelay("d3([0-32768*65536]/[0-1]<0&[0-32768*65536]%[0-1]=0);d4(i=i)", 3);
        dueDelay("d3(i=1);d4(i=0);d5(i=0)", 4);
        dueDelay("d2(i=9);".repeat(15) + "d7(i=i)", 7);
        dueDelay("d10" + "+0".repeat(116) + "(i=i)", 10);
        LoadsAhead often = bench("#1,1", "d2+3*4-1(i=i&i=i&i=i)");
        for (int i = 0; i < 60; i++) {
            law(often, "d2+3*4-1(i=i&i=i&i=i)");
        }
        due("told often", often.tried(1, 0), 14);
    }

    private static void lawLetters() {
        dueDelay("ds(i=i)", 16);
        dueDelay("dw(i=i)", 2);
        dueDelay("dk+3(k=0)", 3);
        dueDelay("dn+r+i+4(i=i)", 4);
        LoadsAhead x = bench("#1,1;+2,1,1;Lb3,0;Sb3,0", "");
        due("kinds, none told", x.tried(1, 0), 1 + 1 + 1 + 2 + 1);
        LoadsAhead c = bench("#1,1;+2,1,1", "d3(i=0);dc(i=1)");
        due("c", c.tried(1, 0), 7);
        LoadsAhead r = bench("#1,1", "dr+1(i=0)");
        due("r 0", r.run(1), 2);
        due("r 1", r.run(1), 3);
        due("r 2", r.run(1), 4);
        LoadsAhead n = bench("#1,5;Sb1,0;Lb2,0", "d4(i=0);d1+n*3(k=2)");
        due("n: wrong at 5, off till 9", n.run(4), 10);
        LoadsAhead s = bench("#1,5;Sb1,0;Lb2,0", "d4(i=0);d1(k=2&s=16);d7(s=0)");
        due("s: the load's set is 0 at 5, off till 12", s.run(4), 13);
    }

    private static void promise6() {
        String good = "#0,0;#7,9999;+1,2,3;-4,5,6;*7,0,1;&1,1,1;^2,2,2;>3,3,3;Lb1,0;Lh2,r3+4;Lw5,9999;Sb1,63;Sh1,r0+0;Sw1,1";
        dueProgram(good, 14);
        dueProgram("", -1);
        for (String start : new String[] {" ", "a", "l", "s", "|", "/", "%", ";", "1", ",", "\u00ff", "\u0000"}) {
            dueProgram(start, -1000);
        }
        dueProgram("#", -1001);
        dueProgram("#8,1", -1001);
        dueProgram("#1;1", -1002);
        dueProgram("#1,", -1003);
        dueProgram("#1,r", -1003);
        dueProgram("#1,-1", -1003);
        dueProgram("#1,12345", -2007);
        dueProgram("#1,00000", -2007);
        dueProgram("#1,0001", 1);
        dueProgram("#1,1,", -1004);
        dueProgram("#1,1;", -1005);
        dueProgram("#1,1;;", -1005);
        dueProgram("+1,2,8", -1005);
        dueProgram("+1,2,3,", -1006);
        dueProgram("+1,2,34", -1006);
        dueProgram("+11,2,3", -1002);
        dueProgram(">1,2;3", -1004);
        dueProgram("Lx1,0", -1001);
        dueProgram("L1,0", -1001);
        dueProgram("Lb8,0", -1002);
        dueProgram("Lb1;0", -1003);
        dueProgram("Lb1,", -1004);
        dueProgram("Lb1,+0", -1004);
        dueProgram("Lb1,r", -1005);
        dueProgram("Lb1,r8+0", -1005);
        dueProgram("Lb1,r1-1", -1006);
        dueProgram("Lb1,r1", -1006);
        dueProgram("Lb1,r1+", -1007);
        dueProgram("Lb1,r1+12345", -2011);
        dueProgram("Sb1,12345", -2008);
        dueProgram("Sb1,1+1", -1005);
        String twenty = "#1,1" + ";#1,1".repeat(19);
        dueProgram(twenty, 20);
        dueProgram(twenty + ";#", -4100);
        dueProgram(twenty + ";S", -4100);
        dueProgram(twenty + ";x", -1100);
        dueProgram(twenty + ";", -1100);
        dueProgram("#1,12345" + ";#1,1".repeat(20), -2007);
        programBounds();
        programGoesBy();
    }

    private static void programBounds() {
        LoadsAhead x = new LoadsAhead();
        for (int i = 0; i < 13; i++) {
            x.feed(0x23312c31, 0x3b23312c, 0x313b2331, 0x2c313b23, 0x312c313b);
        }
        due("program 0", x.program(0), -1);
        due("program 241", x.program(241), -1);
        due("program -5", x.program(-5), -1);
        due("tape stays", x.count(5), 260);
        due("program 4 of 260", x.program(4), 1);
        due("tape goes", x.count(5), 0);
        due("program of none", x.program(1), -1);
        x.feed(0x23312c31, 0x3b23312c, 0x313b2331, 0x2c313b23, 0x312c313b);
        due("program 21 of 20", x.program(21), -1);
        due("tape stays", x.count(5), 20);
        x.program(1);
        for (int i = 0; i < 12; i++) {
            x.feed(0, 0, 0, 0, 0);
        }
        due("program 240 of 240", x.program(240), -1000);
    }

    private static void programGoesBy() {
        LoadsAhead x = bench("#1,5;Sb1,0;Lb2,0", "d4(i=0);d1(k=2)");
        x.run(4);
        x.watch(0, 2);
        x.watch(0, 1);
        due("fault", program(x, "#1,5;"), -1005);
        dueCounts("all stays", x, 1, 3, 1, 1, 2, 0);
        due("sets stay", x.count(8), 2);
        due("watched stay", x.count(10), 1);
        due("last run stays", x.lastRun(1), 1);
        int seed = x.count(6);
        due("new", program(x, "#1,5;Sb1,0;Lb2,0"), 3);
        due("sets go", x.count(8), 0);
        due("next set", x.count(9), 0);
        due("watched go", x.count(10), 0);
        due("watched go", x.watched(0, 0, 6), -4);
        due("last run goes", x.lastRun(0), -2);
        due("of the ops too", x.opIs(1, 4), -2);
        due("runs stay", x.count(0), 1);
        due("memory stays", x.now(100), 5);
        due("registers stay", x.now(2), 5);
        due("law stays", x.count(4), 2);
        due("misplaced stays", x.count(7), 1);
        due("X stays", x.count(6), seed);
    }

    private static void promise7() {
        LoadsAhead none = new LoadsAhead();
        due("no program", none.run(1), -1);
        LoadsAhead x = bench("#1,5;Sb1,0;Lb2,0;+3,2,2;+4,1,1", "d4(i=0);d1(k=2)");
        due("wide 0", x.run(0), -1);
        due("wide 5", x.run(5), -1);
        due("wide -1", x.run(-1), -1);
        due("runs", x.count(0), 0);
        due("X", x.count(6), 1);
        due("run", x.run(4), 8);
        dueLast("first", x, 8, 1, 2, 0, 0, 0);
        due("what depends", x.opIs(3, 3), 1);
        due("that alone", x.opIs(4, 3), 0);
        due("done last", x.opIs(3, 2), 7);
        due("r3", x.now(3), 10);
        due("r4", x.now(4), 10);
        due("run", x.run(4), 8);
        dueLast("second", x, 8, 0, 0, 0, 0, 5);
        LoadsAhead draws = bench("#1,1;#2,2", "d1+w(i<9)");
        due("draws 2, 7: off till 3; at 1 till 9", draws.run(1), 10);
        due("X", draws.count(6), 61087);
        wideness();
        melting();
        retiring();
        replaying();
    }

    private static void wideness() {
        String four = "#1,1;#2,1;#3,1;#4,1";
        due("wide 1", bench(four, "").run(1), 5);
        due("wide 2", bench(four, "").run(2), 3);
        due("wide 3", bench(four, "").run(3), 3);
        due("wide 4", bench(four, "").run(4), 2);
        LoadsAhead kept = bench("#1,5;Sb1,0;#3,1;#4,1;Lb2,0", "d4(i=0);d1(k=2)");
        kept.run(4);
        due("learnt", kept.opIs(4, 1), 0);
        due("kept behind wide of them, from 0 to 4", kept.tried(1, 5), 5);
    }

    private static void melting() {
        LoadsAhead x = bench("#1,1;Sb1,0;Sb1,1;Lb2,0;Lb3,1;Lh4,0", "d5(i=0);d1(i>0)");
        due("run", x.run(4), 8);
        dueLast("two sets", x, 8, 3, 3, 0, 0, 0);
        int[] sets = {-2, 0, 1, 0, 1, 0};
        for (int op = 0; op < 6; op++) {
            due("set of " + op, x.opIs(op, 1), sets[op]);
        }
        due("next", x.count(9), 2);
        due("law", law(x, "d5(i=0);d3(i=2);d1(i>0)"), 3);
        due("run", x.run(4), 10);
        dueLast("melt", x, 10, 1, 1, 0, 0, 20);
        int[] melted = {-2, 0, 0, 0, 1, 0};
        for (int op = 0; op < 6; op++) {
            due("melted set of " + op, x.opIs(op, 1), melted[op]);
        }
        due("next", x.count(9), 2);
        due("have one", x.count(8), 5);
    }

    private static void retiring() {
        LoadsAhead one = bench("#1,7;Sb2,0;Sb2,1", "d6(i=0);x(i=1)");
        due("none behind it either", one.run(4), 8);
        dueLast("x", one, 8, 0, 0, 0, 0, 0);
        LoadsAhead two = bench("#1,7;Sb2,0;Sb2,1", "d6(i=0);x(i=2)");
        due("x of the second alone", two.run(4), 7);
        dueLast("x", two, 7, 0, 0, 1, 0, 0);
        LoadsAhead any = bench("#1,7;Sb2,0;Sb2,1", "d6(i=0);x(i=9);x(i=1)");
        due("any x will do", any.run(4), 8);
        LoadsAhead w = bench("#1,7;Sb2,0;Sb2,1", "d6(i=0);x(w>0)");
        due("no draw: w is 0", w.run(4), 7);
        due("three draws", w.count(6), 20196);
        LoadsAhead undone = bench("#1,7;Sb1,0;Sb3,0;Sb3,1", "d6(i=0)");
        undone.register(3, 9);
        due("two are undone", undone.run(4), 10);
        dueLast("undone", undone, 10, 0, 0, 2, 2, 0);
        due("memory", undone.now(100), 9);
        LoadsAhead last = bench("Sw1,62;#2,1", "d9(i=0)");
        last.register(1, 0x04030201);
        due("a store alone", last.run(1), 10);
        due("round the end", last.now(163), 2);
        due("round the end", last.now(101), 4);
    }

    private static void replaying() {
        LoadsAhead x = bench("#1,7;Sb1,0;Lb2,0;Sb2,1", "d6(i=0);d1(k=2)");
        x.poke(0, 3);
        x.poke(1, 9);
        due("run", x.run(4), 10);
        dueLast("a retired one is replayed", x, 10, 1, 2, 1, 1, 0);
        due("memory", x.now(101), 7);
        due("unlike", x.unlike(4), 0);
        LoadsAhead held = bench("#1,7;Sb1,0;Lb2,0;Sb2,1", "d6(i=0);d1(k=2);x(k=3)");
        due("run", held.run(4), 10);
        dueLast("not ahead", held, 10, 1, 2, 0, 0, 0);
        // the second load took its byte from the store that the first load's replay takes along
        LoadsAhead along = bench("#1,7;Sb1,0;Lb2,0;Sb2,1;Lb3,1;+4,3,3", "d9(i=0);d1(k=2);d1(k=3)");
        due("run", along.run(4), 15);
        dueLast("by a store", along, 15, 2, 6, 1, 1, 2);
        due("r4", along.now(4), 14);
        LoadsAhead second = bench("#1,7;Sb1,0;Lb2,0;Sb2,9;Lh3,8;+4,3,3", "d9(i=0);d1(k=2);d1(k=3)");
        due("run", second.run(4), 15);
        dueLast("by its second byte", second, 15, 2, 6, 1, 1, 2);
        due("r4", second.now(4), 2 * 7 * 256);
        LoadsAhead beside = bench("#1,7;Sb1,0;Lb2,0;Sb2,9;Lw5,20;Lb3,9;+4,3,3", "d9(i=0);d1(k=2);d1(k=3)");
        due("run", beside.run(4), 15);
        dueLast("what took none is left alone", beside, 15, 2, 6, 1, 1, 2);
        // two wrong ones, the second of which the first takes along
        LoadsAhead twice = bench("#1,2;Sb1,2;Lb2,2;Lb3,r2+2", "d6(i=0);d1(k=2)");
        due("run", twice.run(4), 10);
        dueLast("wrong all the same", twice, 10, 2, 2, 0, 0, 0);
        due("the place by the register", twice.opIs(3, 5), 4);
        replayingWhatIsOff();
        undoingAtAnotherPlace();
    }

    /** Load 6 took its byte from store 3 and is off again when that is replayed: it is left alone. */
    private static void replayingWhatIsOff() {
        LoadsAhead x = bench("#1,7;Sb1,0;Lb2,0;Sb2,1;#3,5;Sb3,1;Lb4,1",
            "d9(i=0);d3(i=4);d3(i=6&n=0);d16(i=6);d1(k=2)");
        due("run", x.run(4), 21);
        dueLast("off", x, 21, 2, 3, 3, 3, 0);
        due("r4", x.now(4), 5);
        due("worst", x.worst(0), 2);
    }

    /** Store 4 was retired at 61 to 0, is replayed while x holds store 2 back, and goes to 1 to 4 then. */
    private static void undoingAtAnotherPlace() {
        LoadsAhead x = bench("#3,1;#1,7;Sb1,0;Lb2,0;Sw5,r2+58", "d20(i=0);d6(i=1);d1(k=2);x(i=2)");
        x.register(5, 0x04030201);
        int[] before = {3, 0, 0, 0, 0, 0, 11, 12, 13};
        int[] after = {7, 1, 2, 3, 4, 0, 11, 12, 13};
        for (int i = 0; i < 9; i++) {
            x.poke(i < 6 ? i : 55 + i, before[i]);
        }
        due("run", x.run(4), 22);
        dueLast("undone", x, 22, 1, 2, 1, 1, 0);
        for (int i = 0; i < 9; i++) {
            due("byte " + i, x.now(100 + (i < 6 ? i : 55 + i)), after[i]);
        }
    }

    private static void promise8() {
        LoadsAhead none = new LoadsAhead();
        due("no program", none.tried(1, 10), -1);
        LoadsAhead x = bench("#1,7;Sb1,0;Lb2,0;Sb2,1", "d6(i=0);d1(k=2)");
        int[] wanted = {10, 1, 2, 1, 1, 0};
        for (int what = 0; what < 6; what++) {
            due("tried " + what, x.tried(4, what), wanted[what]);
        }
        due("r1", x.tried(4, 11), 7);
        due("r2", x.tried(4, 12), 7);
        due("r7", x.tried(4, 17), 0);
        due("memory", x.tried(4, 101), 7);
        due("memory 63", x.tried(4, 163), 0);
        for (int what : new int[] {-1, 6, 9, 18, 99, 164, Integer.MAX_VALUE, Integer.MIN_VALUE}) {
            due("no such what", x.tried(4, what), -1);
        }
        due("wide 0", x.tried(0, 0), -1);
        due("wide 5", x.tried(5, 0), -1);
        dueCounts("all stay", x, 0, 4, 1, 2, 2, 0, 1, 0, 0, 0, 0, 0);
        due("last run", x.lastRun(0), -2);
        due("r2 now", x.now(2), 0);
    }

    private static void promise9() {
        LoadsAhead x = bench("#1,5;Sb1,0;Lb2,0", "d4(i=0);d1(k=2)");
        due("none yet", x.lastRun(5), -2);
        due("no such", x.lastRun(6), -1);
        x.run(4);
        dueLast("run", x, 7, 1, 1, 0, 0, 0);
        due("no such", x.lastRun(6), -1);
        due("no such", x.lastRun(-1), -1);
        x.tried(1, 0);
        x.cautious(1, 0);
        x.unlike(1);
        x.fastest(0);
        dueLast("stays", x, 7, 1, 1, 0, 0, 0);
        x.keep();
        x.run(4);
        x.undo();
        dueLast("not undone", x, 7, 0, 0, 0, 0, 5);
    }

    private static void promise10() {
        LoadsAhead x = bench("#1,513;Sh1,r3+63;+2,1,1;Lw4,63;Sb1,9", "d4(i=0);d1(k=2)");
        int[] kinds = {0, 3, 1, 2, 3};
        for (int op = 0; op < 5; op++) {
            due("kind", x.opIs(op, 0), kinds[op]);
            due("set", x.opIs(op, 1), -2);
            due("no last run", x.opIs(op, 2), -2);
            due("no last run", x.opIs(op, 5), -2);
            due("a byte", x.opIs(op, 10), op == 3 ? -2 : -4);
        }
        due("no such byte, ahead of all", x.opIs(3, 14), -4);
        x.poke(1, 7);
        due("run", x.run(4), 7);
        due("done", x.opIs(0, 2), 4);
        due("done", x.opIs(3, 2), 6);
        due("replayed", x.opIs(3, 3), 1);
        due("value", x.opIs(0, 4), 513);
        due("value", x.opIs(2, 4), 1026);
        due("bytes", x.opIs(1, 4), 513);
        due("the lowest alone", x.opIs(4, 4), 1);
        due("a load", x.opIs(3, 4), 0x00070201);
        due("place", x.opIs(1, 5), 63);
        due("place", x.opIs(4, 5), 9);
        due("reckons", x.opIs(0, 5), -2);
        due("reckons", x.opIs(2, 5), -2);
        int[] from = {1, 1, -2, -2, -4, -4};
        for (int i = 0; i < from.length; i++) {
            due("byte " + i, x.opIs(3, 10 + i), from[i]);
        }
        due("no load", x.opIs(1, 10), -4);
        due("set", x.opIs(3, 1), 0);
        for (int what : new int[] {-1, 6, 9, Integer.MIN_VALUE}) {
            due("no such what", x.opIs(3, what), -100000);
        }
        due("no such op", x.opIs(5, 0), -100000);
        due("no such op", x.opIs(-1, 10), -100000);
        LoadsAhead below = bench("#1,0;#2,3;-3,1,2;Sw3,r3+0;Lb4,r3+0;Lh5,61;Lw6,61", "");
        below.run(2);
        due("a place below 0", below.opIs(3, 5), 61);
        due("a word", below.opIs(3, 4), -3);
        due("b has no sign", below.opIs(4, 4), 253);
        due("h has no sign", below.opIs(5, 4), 65533);
        due("w", below.opIs(6, 4), -3);
    }

    private static void promise11() {
        LoadsAhead x = bench("#1,1;#2,2;+1,1,2;Sb1,r2+0;Lb1,r1+0;+3,1,1", "");
        due("first", x.source(2, 1), 0);
        due("second", x.source(2, 2), 1);
        due("stored", x.source(3, 1), 2);
        due("of its place", x.source(3, 2), 1);
        due("a load", x.source(4, 1), 2);
        due("a load is one", x.source(5, 1), 4);
        due("not read", x.source(5, 2), -2);
        due("# reads none", x.source(0, 1), -2);
        due("no such op", x.source(6, 1), -1);
        due("no such op", x.source(-1, 1), -1);
        due("no such register", x.source(0, 8), -1);
        due("no such register", x.source(0, -1), -1);
        due("read as it was", bench("+1,2,3", "").source(0, 2), -2);
    }

    private static void promise12() {
        LoadsAhead x = new LoadsAhead();
        x.register(7, -1);
        x.poke(63, 8);
        due("now", x.now(7), -1);
        due("now", x.now(163), 8);
        for (int what : new int[] {-1, 8, 99, 164, Integer.MAX_VALUE, Integer.MIN_VALUE}) {
            due("now " + what, x.now(what), -100000);
            due("plain " + what, x.plain(what), -100000);
        }
    }

    private static void promise13() {
        LoadsAhead none = new LoadsAhead();
        none.register(2, 5);
        none.poke(3, 6);
        due("as it is", none.plain(2), 5);
        due("as it is", none.plain(103), 6);
        LoadsAhead x = bench("#1,9;-2,3,1;*3,2,2;&4,3,1;^5,3,1;>6,1,2;>7,2,1;Sw2,62", "");
        x.register(3, 2);
        int[] registers = {0, 9, -7, 49, 49 & 9, 49 ^ 9, 1, 0};
        for (int r = 0; r < 8; r++) {
            due("plain " + r, x.plain(r), registers[r]);
        }
        due("lowest first", x.plain(162), 249);
        due("round the end", x.plain(101), 255);
        due("nothing changes", x.now(1), 0);
        LoadsAhead wraps = bench("*1,2,2;+3,2,2;>4,2,5;>5,2,2", "");
        wraps.register(2, 0x7fffffff);
        due("32 bits", wraps.plain(1), 1);
        due("32 bits", wraps.plain(3), -2);
        due("above", wraps.plain(4), 1);
        due("alike", wraps.plain(5), 0);
    }

    private static void promise14() {
        due("no program", new LoadsAhead().unlike(1), -1);
        LoadsAhead x = bench("#1,7;Sb1,0;Lb2,0;Sb2,1;Lh3,0", "d9(i=0);d1(k=2)");
        for (int wide = 1; wide <= 4; wide++) {
            due("unlike", x.unlike(wide), 0);
        }
        due("wide 0", x.unlike(0), -1);
        due("wide 5", x.unlike(5), -1);
        dueCounts("all stays", x, 0, 5, 2, 2, 2, 0, 1, 0, 0, 0, 0, 0);
    }

    private static void promise15() {
        due("no program", new LoadsAhead().fastest(0), -1);
        LoadsAhead x = bench("#1,1;#2,1;#3,1;#4,1", "");
        due("wide", x.fastest(0), 4);
        due("cycles", x.fastest(1), 2);
        due("no such", x.fastest(2), -1);
        due("no such", x.fastest(-1), -1);
        LoadsAhead chain = bench("#1,1;+1,1,1;+1,1,1", "");
        due("the least of like ones", chain.fastest(0), 1);
        due("cycles", chain.fastest(1), 4);
        due("X", chain.count(6), 1);
    }

    private static void promise16() {
        due("no program", new LoadsAhead().cautious(1, 0), -1);
        LoadsAhead x = bench("#1,7;Sb1,0;Lb2,0;Sb2,1;Lb3,9", "d6(i=0);d1(k=2)");
        // both loads are kept from 0 to 6, the second one at 7, 8 too
        int[] wanted = {11, 0, 0, 0, 0, 16};
        for (int what = 0; what < 6; what++) {
            due("cautious " + what, x.cautious(4, what), wanted[what]);
        }
        due("no such", x.cautious(4, 6), -1);
        due("no such", x.cautious(4, -1), -1);
        due("no such", x.cautious(4, 10), -1);
        due("wide 0", x.cautious(0, 0), -1);
        due("wide 5", x.cautious(5, 0), -1);
        dueCounts("all stays", x, 0, 5, 2, 2, 2, 0, 1, 0, 0, 0, 0, 0);
    }

    private static void promise17() {
        LoadsAhead x = bench("#1,5;Sb1,0;Lb2,0;+3,2,2", "d4(i=0);d1(k=2)");
        due("no last run", x.worst(0), -2);
        due("no such", x.worst(2), -1);
        x.run(4);
        due("the lowest", x.worst(0), 2);
        due("how often", x.worst(1), 1);
        due("no such", x.worst(2), -1);
        due("no such", x.worst(-1), -1);
        x.run(4);
        due("none was", x.worst(0), 0);
        due("none was", x.worst(1), 0);
        // the stores are done at 2, 4, 6: the load is wrong three times
        LoadsAhead often = bench("Sb1,0;Sb1,0;Sb1,0;Lb2,0;Lb3,9", "d2(i=0);d4(i=1);d6(i=2);d1(k=2)");
        due("run", often.run(4), 8);
        due("the op", often.worst(0), 3);
        due("often", often.worst(1), 3);
        program(often, "#1,1");
        due("gone by", often.worst(0), -2);
    }

    private static void promise18() {
        due("no program", new LoadsAhead().deep(), 0);
        due("one", bench("#1,1", "").deep(), 1);
        due("apart", bench("#1,1;#2,1", "").deep(), 1);
        due("a chain", bench("#1,1;+2,1,3;Lb4,r2+0;Sb4,r1+0;#4,1;+5,4,4", "").deep(), 4);
        due("by memory is none", bench("Sb1,0;Lb2,0", "").deep(), 1);
        due("twenty", bench("+1,1,1" + ";+1,1,1".repeat(19), "").deep(), 20);
    }

    private static void promise19() {
        due("no program", new LoadsAhead().mix(), 0);
        due("none", bench("Lb1,0;Sb1,0", "").mix(), 0);
        due("one", bench("Sb1,0;Lb1,0", "").mix(), 1);
        due("beside", bench("Sb1,4;Lw1,0;Lw1,5", "").mix(), 0);
        due("within", bench("Sb1,3;Lw1,0;Sw1,3;Lb2,6", "").mix(), 2);
        due("round the end", bench("Sw1,62;Lb2,1;Lb3,2;Sh1,63;Lw4,60", "").mix(), 3);
        LoadsAhead x = bench("Sb1,5;Lb2,r3+5", "");
        due("by a register", x.mix(), 1);
        x.register(3, 64);
        due("round", x.mix(), 1);
        x.register(3, -1);
        due("from now", x.mix(), 0);
    }

    private static void promise20() {
        LoadsAhead none = new LoadsAhead();
        due("no program", none.watch(0, 0), -1);
        LoadsAhead x = bench("#1,1;Lb1,0;Sb1,0;+1,1,1", "");
        due("a load", x.watch(0, 1), 1);
        due("again", x.watch(0, 1), 2);
        due("a store", x.watch(1, 2), 1);
        due("no such row", x.watch(2, 1), -1);
        due("no such row", x.watch(-1, 1), -1);
        due("no such op", x.watch(0, 4), -1);
        due("no such op", x.watch(0, -1), -1);
        due("misplaced so far", x.count(7), 0);
        due("a store", x.watch(0, 2), -7);
        due("a load", x.watch(1, 1), -7);
        due("reckons", x.watch(0, 3), -7);
        due("reckons", x.watch(1, 0), -7);
        due("misplaced", x.count(7), 4);
        for (int i = 3; i <= 8; i++) {
            due("more", x.watch(0, 1), i);
        }
        due("full", x.watch(0, 1), -3);
        due("full, ahead of misplaced", x.watch(0, 2), -3);
        due("full, ahead of no such op", x.watch(0, 99), -3);
        due("misplaced", x.count(7), 4);
        due("in both", x.count(10), 9);
    }

    private static void promise21() {
        LoadsAhead x = bench("#1,5;Sb1,3;Lb2,3", "d4(i=0);d1(k=2)");
        due("none", x.watched(0, 0, 0), -4);
        x.watch(0, 2);
        x.watch(1, 1);
        due("no last run", x.watched(0, 0, 4), -2);
        x.run(4);
        int[] load = {2, 0, 6, 1, 5, 3, 2};
        int[] store = {3, 0, 5, 0, 5, 3, 1};
        for (int what = 0; what <= 6; what++) {
            due("load " + what, x.watched(0, 0, what), load[what]);
            due("store " + what, x.watched(1, 0, what), store[what]);
        }
        due("not so many", x.watched(0, 1, 0), -4);
        due("not so many", x.watched(0, 99, 6), -4);
        due("no such row", x.watched(2, 0, 0), -100000);
        due("no such row", x.watched(-1, 0, 0), -100000);
        due("no such what", x.watched(0, 0, 7), -100000);
        due("no such what", x.watched(0, 0, -1), -100000);
        due("no such what", x.watched(0, 0, 10), -100000);
        due("no such i", x.watched(0, -1, 0), -100000);
    }

    private static void promise22() {
        due("none", new LoadsAhead().forget(), 0);
        LoadsAhead x = bench("#1,5;Sb1,3;Lb2,3;Lb3,3", "d4(i=0);d1(k=2)");
        x.run(4);
        due("three", x.forget(), 3);
        due("none", x.forget(), 0);
        due("set", x.opIs(2, 1), -2);
        due("the next stays", x.count(9), 1);
        for (int next = 2; next <= 17; next++) {
            x.run(4);
            due("the set", x.opIs(2, 1), (next - 1) % 16);
            due("the next", x.count(9), next % 16);
            x.forget();
        }
    }

    private static void promise23() {
        LoadsAhead x = bench("#1,1", "d1+w(i=i)");
        due("0", x.seed(0), true);
        due("X", x.count(6), 0);
        due("13849: 9", x.run(1), 11);
        due("X", x.count(6), 13849);
        due("65535", x.seed(65535), true);
        due("X", x.count(6), 65535);
        due("-25173 + 13849: 54212", x.run(1), 4);
        due("X", x.count(6), 54212);
        due("65536", x.seed(65536), false);
        due("-1", x.seed(-1), false);
        due("X stays", x.count(6), 54212);
    }

    private static void promise24And25() {
        LoadsAhead x = bench("#1,5;Sb1,0;Lb2,0", "d4(i=0);d1(k=2)");
        due("none was kept", x.undo(), false);
        x.run(4);
        due("keep", x.keep(), 1);
        int seed = x.count(6);
        x.forget();
        x.run(4);
        x.register(5, 5);
        x.poke(5, 5);
        due("undo", x.undo(), true);
        due("registers", x.now(5), 0);
        due("memory", x.now(105), 0);
        due("runs", x.count(0), 1);
        due("X", x.count(6), seed);
        due("sets", x.opIs(2, 1), 0);
        due("next", x.count(9), 1);
        x.register(5, 6);
        due("once more", x.undo(), true);
        due("registers", x.now(5), 0);
        due("a fault", program(x, "x"), -1000);
        x.forget();
        x.undo();
        due("not told: sets come back", x.count(8), 2);
        due("new program", program(x, "#1,6;Sb1,0;Lb2,0;Lb3,0"), 4);
        x.register(5, 7);
        due("undo", x.undo(), true);
        due("registers", x.now(5), 0);
        due("sets stay gone", x.count(8), 0);
        due("next stays", x.count(9), 0);
        x.run(4);
        due("undo", x.undo(), true);
        due("sets stay", x.count(8), 3);
        due("next stays", x.count(9), 1);
        due("runs", x.count(0), 1);
        due("keep", x.keep(), 1);
        x.forget();
        due("undo", x.undo(), true);
        due("kept anew", x.count(8), 3);
    }

    private static void promise26() {
        LoadsAhead x = new LoadsAhead();
        x.poke(1, 2);
        x.poke(4, 255);
        x.feed(0x00020000, 0xff000000, 0, 0, 0);
        due("21 of 20", x.check(21), -2);
        due("-1", x.check(-1), -2);
        due("65", x.check(65), -2);
        due("tape stays", x.count(5), 20);
        due("right", x.check(20), -1);
        due("tape goes", x.count(5), 0);
        x.feed(0x00020000, 0x7f000001, 0, 0, 0);
        due("right so far", x.check(4), -1);
        x.feed(0x00020000, 0x7f000001, 0, 0, 0);
        due("the first", x.check(8), 4);
        x.feed(0x01020000, 0x7f000001, 0, 0, 0);
        due("the first", x.check(8), 0);
        x.feed(1, 1, 1, 1, 1);
        due("none asked", x.check(0), -1);
        due("tape goes", x.count(5), 0);
        due("none there", x.check(0), -1);
        x.poke(63, 9);
        for (int i = 0; i < 4; i++) {
            x.feed(i == 0 ? 0x00020000 : 0, i == 0 ? 0xff000000 : 0, 0, 0, 0);
        }
        due("65 of 80", x.check(65), -2);
        due("64 of 80", x.check(64), 63);
    }

    private static void promise27() {
        LoadsAhead x = bench("#1,5;Sb1,0;Lb2,0;Lb3,9;Lb4,0", "d4(i=0);d1(k=2)");
        x.watch(0, 2);
        x.watch(1, 1);
        x.watch(1, 2);
        x.run(4);
        x.feed(0, 0, 0, 0, 0);
        x.seed(77);
        dueCounts("count", x, 1, 5, 3, 1, 2, 20, 77, 1, 3, 1, 2, 1);
        for (int what : new int[] {-1, 12, 100, Integer.MAX_VALUE, Integer.MIN_VALUE}) {
            due("no such", x.count(what), -1);
        }
    }

    private static void name(int number) {
        sentence("## Promise " + number + ":");
    }

    public static void main(String[] args) {
        name(1); promise1();
        name(2); promise2();
        name(3); promise3();
        name(4); promise4();
        name(5); promise5();
        name(6); promise6();
        name(7); promise7();
        name(8); promise8();
        name(9); promise9();
        name(10); promise10();
        name(11); promise11();
        name(12); promise12();
        name(13); promise13();
        name(14); promise14();
        name(15); promise15();
        name(16); promise16();
        name(17); promise17();
        name(18); promise18();
        name(19); promise19();
        name(20); promise20();
        name(21); promise21();
        name(22); promise22();
        name(23); promise23();
        name(24); promise24And25();
        name(26); promise26();
        name(27); promise27();
        end();
    }
}
