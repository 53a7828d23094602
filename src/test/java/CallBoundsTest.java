/** The sentences of the document's promises (calls and their arguments) that name bounds. */
public final class CallBoundsTest extends Bench {
    private static final int LEAST = Integer.MIN_VALUE;
    private static final int MOST = Integer.MAX_VALUE;
    /** Op 2 takes its byte too early in the first run. */
    private static final String SMALL = "#1,5;Sb1,0;Lb2,0;+3,2,2";
    private static final String LATE = "d4(i=0);d1(k=2)";

    private static void newObject() {
        sentence("`LoadsAhead()`: No PROGRAM, LAW; THE SEED 1.");
        LoadsAhead x = new LoadsAhead();
        dueCounts(x, 0, 0, 0, 0, 0, 0, 1, 0, 0, 0, 0, 0, -1);
        due("run", x.run(1), -1);
        due("tried", x.tried(1, 0), -1);
        due("tried", x.tried(4, 163), -1);
        due("unlike", x.unlike(1), -1);
        due("fastest", x.fastest(0), -1);
        due("fastest", x.fastest(1), -1);
        due("cautious", x.cautious(1, 0), -1);
        due("lastRun", x.lastRun(0), -2);
        due("worst", x.worst(0), -2);
        due("opIs", x.opIs(0, 0), -100000);
        due("opIs", x.opIs(0, 10), -100000);
        due("source", x.source(0, 0), -1);
        due("watch", x.watch(0, 0), -1);
        due("watched", x.watched(0, 0, 0), -4);
        due("watched", x.watched(1, 0, 6), -4);
        due("forget", x.forget(), 0);
        due("undo", x.undo(), false);
        due("law", x.law(1), -1);
        due("program", x.program(1), -1);
        due("check", x.check(1), -2);
        due("check", x.check(0), -1);
        due("a run with the seed 1 draws 2", bench("#1,1", "d5+w(i=i)").run(1), 8);
    }

    private static void ofItsOwn() {
        sentence("`NONE = -1`: There is none.");
        due("NONE", LoadsAhead.NONE, -1);
        sentence("All memory is the bench's own.");
        LoadsAhead other = new LoadsAhead();
        int[] before = seen(other);
        LoadsAhead x = bench(SMALL, LATE);
        x.run(4);
        x.watch(0, 2);
        x.watch(1, 2);
        x.keep();
        x.register(7, 7);
        x.poke(63, 7);
        x.seed(7);
        x.feed(1, 2, 3, 4, 5);
        dueSame("calls of another object", other, before);
        due("undo", other.undo(), false);
        before = seen(x);
        program(other, "#7,9;Sb7,63");
        law(other, "d20(i=i)");
        other.run(1);
        other.forget();
        other.keep();
        other.undo();
        dueSame("calls of another object", x, before);
    }

    private static void registerAndPoke() {
        sentence("A REGISTER becomes a number: true; false: no such one.");
        LoadsAhead x = bench(SMALL, LATE);
        x.run(4);
        int[] before = seen(x);
        for (int r : new int[] {-1, 8, 100, LEAST, MOST}) {
            due("register(" + r + ")", x.register(r, 9), false);
            dueSame("register(" + r + ")", x, before);
        }
        for (int r = 0; r < 8; r++) {
            due("register(" + r + ")", x.register(r, r - 4), true);
        }
        for (int r = 0; r < 8; r++) {
            due("now(" + r + ")", x.now(r), r - 4);
        }
        sentence("A byte of MEMORY becomes a number (0 to 255): true; false: no such ones.");
        before = seen(x);
        for (int at : new int[] {-1, 64, 100, LEAST, MOST}) {
            due("poke(" + at + ")", x.poke(at, 9), false);
            dueSame("poke(" + at + ")", x, before);
        }
        for (int v : new int[] {-1, 256, 257, -255, LEAST, MOST}) {
            due("poke(0, " + v + ")", x.poke(0, v), false);
            due("poke(63, " + v + ")", x.poke(63, v), false);
            dueSame("poke(0, " + v + ")", x, before);
        }
        for (int v : new int[] {0, 1, 127, 128, 254, 255}) {
            due("poke(0, " + v + ")", x.poke(0, v), true);
            due("poke(63, " + v + ")", x.poke(63, v), true);
            due("now(100)", x.now(100), v);
            due("now(163)", x.now(163), v);
        }
    }

    private static void feeding() {
        sentence("Twenty bytes come behind the tape, the highest of each int first: how many it has; NONE if that would be"
            + " more than 260.");
        LoadsAhead x = new LoadsAhead();
        for (int many = 20; many <= 260; many += 20) {
            due("feed", x.feed(0x01020304, many, -1, LEAST, 0x7f80ff00), many);
            due("bytes", x.count(5), many);
        }
        for (int i = 0; i < 3; i++) {
            due("feed", x.feed(9, 9, 9, 9, 9), -1);
            due("bytes", x.count(5), 260);
        }
        int[] bytes = {1, 2, 3, 4, 0, 0, 0, 20, 255, 255, 255, 255, 128, 0, 0, 0, 127, 128, 255, 0,
            1, 2, 3, 4, 0, 0, 0, 40};
        for (int at = 0; at < bytes.length; at++) {
            x.poke(at, bytes[at]);
        }
        due("in their order", x.check(28), -1);
        due("emptied it takes more", x.feed(0x01020304, 0, 0, 0, 0), 20);
        due("from its beginning on", x.check(4), -1);
        for (int many = 20; many <= 240; many += 20) {
            x.feed(0, 0, 0, 0, 0);
        }
        due("a 13th", x.feed(0, 0, 0, 0, 0), 260);
        due("a 14th", x.feed(0, 0, 0, 0, 0), -1);
    }

    private static void texts() {
        sentence("THE LAW by the first n bytes of the tape (1 to 240; empty then), in place of the one before: how many"
            + " RULES; a FAULT: -1000 times its number, less its place (the one before stays); NONE: no such n, it has not"
            + " so many (the tape stays).");
        LoadsAhead x = bench(SMALL, LATE);
        for (int i = 0; i < 13; i++) {
            feed(x, "d3(i=i);d4(i=i);d5(i");
        }
        int[] before = seen(x);
        for (int n : new int[] {0, -1, 241, 260, 261, LEAST, MOST}) {
            due("law(" + n + ")", x.law(n), -1);
            dueSame("law(" + n + ")", x, before);
        }
        due("law(240)", x.law(240), -1020);
        due("empty then", x.count(5), 0);
        due("it has not so many", x.law(1), -1);
        feed(x, "d3(i=i);d4(i=i);d5(i");
        before = seen(x);
        due("law(21)", x.law(21), -1);
        dueSame("law(21)", x, before);
        due("law(15)", x.law(15), 2);
        due("empty then", x.count(5), 0);
        feed(x, "d3(i=i);d4(i=i);d5(i");
        due("law(20)", x.law(20), -1020);
        feed(x, "d3(i=i);d4(i=i);d5(i");
        due("law(1)", x.law(1), -1001);
        due("empty then", x.count(5), 0);
        sentence("A PROGRAM by the first n bytes of the tape (1 to 240; empty then): how many OPS; a FAULT (all stays);"
            + " NONE: as above.");
        for (int i = 0; i < 13; i++) {
            feed(x, "#1,5;#2,6;#3,7;#4,8;");
        }
        before = seen(x);
        for (int n : new int[] {0, -1, 241, 260, 261, LEAST, MOST}) {
            due("program(" + n + ")", x.program(n), -1);
            dueSame("program(" + n + ")", x, before);
        }
        due("program(240)", x.program(240), -4100);
        due("empty then", x.count(5), 0);
        due("it has not so many", x.program(1), -1);
        feed(x, "#1,5;#2,6;#3,7;#4,8;");
        due("program(21)", x.program(21), -1);
        due("the tape stays", x.count(5), 20);
        due("program(20)", x.program(20), -1020);
        due("all stays", x.count(1), 4);
        feed(x, "#1,5;#2,6;#3,7;#4,8;");
        due("program(19)", x.program(19), 4);
        due("empty then", x.count(5), 0);
        feed(x, "#1,5;#2,6;#3,7;#4,8;");
        due("program(1)", x.program(1), -1001);
        due("empty then", x.count(5), 0);
    }

    private static void running() {
        sentence("A RUN so WIDE: CYCLES; -5: it did not end; NONE: no such WIDE, no PROGRAM.");
        LoadsAhead x = bench(SMALL, LATE);
        int[] before = seen(x);
        for (int wide : new int[] {0, 5, -1, LEAST, MOST}) {
            due("run(" + wide + ")", x.run(wide), -1);
            due("unlike(" + wide + ")", x.unlike(wide), -1);
            for (int what : new int[] {0, 5, 10, 17, 100, 163, 6}) {
                due("tried(" + wide + ", " + what + ")", x.tried(wide, what), -1);
                due("cautious(" + wide + ", " + what + ")", x.cautious(wide, what), -1);
            }
            dueSame("wide " + wide, x, before);
        }
        for (int wide = 1; wide <= 4; wide++) {
            due("run", bench(SMALL, LATE).run(wide) > 0, true);
            due("unlike", x.unlike(wide), 0);
        }
        sentence("what 0 CYCLES (-5: it does not end), 1 WRONG, 2 REPLAYED, 3 RETIRED ahead, 4 UNDONE, 5 CYCLES waited,"
            + " 10 + r (0 to 7) REGISTER r then, 100 + at MEMORY then");
        x.register(0, 40);
        x.register(7, 47);
        x.poke(63, 163);
        before = seen(x);
        int[] whats = {0, 1, 2, 3, 4, 5, 10, 11, 12, 13, 17, 100, 101, 162, 163};
        int[] wanted = {8, 1, 2, 0, 0, 0, 40, 5, 5, 10, 47, 5, 0, 0, 163};
        for (int i = 0; i < whats.length; i++) {
            due("tried(4, " + whats[i] + ")", x.tried(4, whats[i]), wanted[i]);
        }
        for (int what : new int[] {-1, 6, 7, 8, 9, 18, 19, 99, 164, 165, LEAST, MOST}) {
            due("tried(4, " + what + ")", x.tried(4, what), -1);
        }
        dueSame("tried", x, before);
        sentence("CAUTIOUS so WIDE, what as tried() 0 to 5; -5: it does not end; NONE: no such ones, no PROGRAM.");
        int[] careful = {8, 0, 0, 0, 0, 5};
        for (int what = 0; what < 6; what++) {
            due("cautious(4, " + what + ")", x.cautious(4, what), careful[what]);
        }
        for (int what : new int[] {-1, 6, 10, 17, 100, LEAST, MOST}) {
            due("cautious(4, " + what + ")", x.cautious(4, what), -1);
        }
        dueSame("cautious", x, before);
    }

    private static void lastRun() {
        sentence("OF THE LAST RUN, what as tried() 0 to 5; none yet: -2; NONE: no such what.");
        LoadsAhead x = bench(SMALL, LATE);
        dueLast(x, -2, -2, -2, -2, -2, -2, -1);
        x.run(4);
        dueLast(x, 8, 1, 2, 0, 0, 0, -1);
        for (int what : new int[] {-1, 6, 10, 100, LEAST, MOST}) {
            due("lastRun(" + what + ")", x.lastRun(what), -1);
        }
        sentence("OF THE LAST RUN that ended (gone by with a new PROGRAM)");
        x.run(0);
        x.tried(1, 0);
        x.cautious(1, 0);
        x.unlike(1);
        x.fastest(0);
        x.forget();
        x.keep();
        x.undo();
        x.seed(9);
        law(x, "d9(i=i)");
        dueLast(x, 8, 1, 2, 0, 0, 0);
        x.run(4);
        due("the last", x.lastRun(0) == 8, false);
        program(x, "x");
        due("a fault is no new one", x.lastRun(0) > 0, true);
        program(x, "#1,1");
        dueLast(x, -2, -2, -2, -2, -2, -2, -1);
    }

    private static void ofAnOp() {
        sentence("Of an OP, what 0 KIND, 1 SET (none: -2), 2 when it was DONE last, 3 how often REPLAYED, 4 its value or"
            + " bytes, 5 its PLACE (reckons: -2)");
        LoadsAhead x = bench(SMALL, LATE);
        dueOps(x, 0, 0, 3, 2, 1, -100000);
        dueOps(x, 1, -2, -2, -2, -2, -100000);
        for (int what = 2; what <= 5; what++) {
            dueOps(x, what, -2, -2, -2, -2, -100000);
        }
        x.run(4);
        dueOps(x, 1, -2, 0, 0, -2, -100000);
        dueOps(x, 2, 4, 5, 6, 7, -100000);
        dueOps(x, 3, 0, 0, 1, 1, -100000);
        dueOps(x, 4, 5, 5, 5, 10, -100000);
        dueOps(x, 5, -2, 0, 0, -2, -100000);
        for (int what : new int[] {-1, 6, 7, 8, 9, LEAST}) {
            dueOps(x, what, -100000, -100000, -100000, -100000, -100000);
        }
        for (int op : new int[] {-1, 4, 19, 20, LEAST, MOST}) {
            for (int what : new int[] {-1, 0, 1, 2, 5, 6, 10, 13, MOST}) {
                due("opIs(" + op + ", " + what + ")", x.opIs(op, what), -100000);
            }
        }
        sentence("10 + i from which OP byte i of a load came (MEMORY: -2; no such byte, no load: -4, ahead of all)"
            + " (2 to 5, 10 + i: no last RUN: -2); -100000: no such ones.");
        for (int size = 1; size <= 4; size *= 2) {
            LoadsAhead load = bench("#1,5;Sb1,0;L" + (size == 1 ? "b" : size == 2 ? "h" : "w") + "2,0;+3,2,2", LATE);
            for (int i = 0; i <= 6; i++) {
                dueOps(load, 10 + i, -4, -4, i < size ? -2 : -4, -4, -100000);
            }
            load.run(4);
            for (int i = 0; i <= 6; i++) {
                dueOps(load, 10 + i, -4, -4, i == 0 ? 1 : i < size ? -2 : -4, -4, -100000);
            }
            due("far beyond", load.opIs(2, MOST), -4);
        }
        LoadsAhead highest = bench("Sb1,3" + ";#2,1".repeat(18) + ";Lw3,0", "");
        highest.run(4);
        for (int i = 0; i < 4; i++) {
            due("byte " + i + " of op 19", highest.opIs(19, 10 + i), i == 3 ? 0 : -2);
        }
        sentence("of a store what it stored, of b, h the lowest bytes alone, without a sign");
        int[] values = {0, 1, 127, 128, 255, 256, 32767, 32768, 65535, 65536, -1, -128, -129, LEAST, MOST};
        LoadsAhead store = bench("Sb1,0;Sh1,4;Sw1,8", "");
        for (int value : values) {
            store.register(1, value);
            store.run(4);
            dueOps(store, 4, value & 255, value & 65535, value);
        }
    }

    private static void sourceOf() {
        sentence("A SOURCE of an OP: the OP that gives REGISTER r what it reads; -2: none, it does not read it;"
            + " NONE: no such ones.");
        LoadsAhead x = bench("#0,1;#7,2;+1,0,7;Sb0,r7+0", "");
        due("source(2, 0)", x.source(2, 0), 0);
        due("source(2, 7)", x.source(2, 7), 1);
        due("source(2, 1)", x.source(2, 1), -2);
        due("source(3, 0)", x.source(3, 0), 0);
        due("source(3, 7)", x.source(3, 7), 1);
        due("source(0, 0)", x.source(0, 0), -2);
        due("source(0, 7)", x.source(0, 7), -2);
        LoadsAhead anew = bench("+1,0,2;+1,0,2;+1,0,2;Sb0,r2+0", "");
        due("a new one", program(anew, "#0,1;#2,2;#1,3;Lb1,0"), 4);
        for (int r = 0; r < 8; r++) {
            due("# reads none", anew.source(2, r), -2);
            due("a load of a number reads none", anew.source(3, r), -2);
        }
        for (int r : new int[] {-1, 8, LEAST, MOST}) {
            due("source(2, " + r + ")", x.source(2, r), -1);
        }
        for (int op : new int[] {-1, 4, 20, LEAST, MOST}) {
            due("source(" + op + ", 0)", x.source(op, 0), -1);
            due("source(" + op + ", 8)", x.source(op, 8), -1);
        }
    }

    private static void nowAndPlain() {
        sentence("What is now, what 0 to 7 REGISTERS, 100 + at MEMORY; -100000 (of REGISTERS it may be a number): no such"
            + " what.");
        LoadsAhead x = new LoadsAhead();
        for (int r = 0; r < 8; r++) {
            x.register(r, r - 100004);
        }
        for (int at = 0; at < 64; at++) {
            x.poke(at, 255 - at);
        }
        for (int what = -3; what < 170; what++) {
            int want = what >= 0 && what < 8 ? what - 100004 : what >= 100 && what < 164 ? 355 - what : -100000;
            due("now(" + what + ")", x.now(what), want);
            due("plain(" + what + ")", x.plain(what), want);
        }
        for (int what : new int[] {LEAST, MOST}) {
            due("now(" + what + ")", x.now(what), -100000);
            due("plain(" + what + ")", x.plain(what), -100000);
        }
        sentence("PLAIN, what as now() (no PROGRAM: as it is).");
        program(x, "#7,3;Sb7,63;Lb0,63;Sb0,0");
        int[] before = seen(x);
        due("plain(0)", x.plain(0), 3);
        due("plain(1)", x.plain(1), -100003);
        due("plain(7)", x.plain(7), 3);
        due("plain(100)", x.plain(100), 3);
        due("plain(101)", x.plain(101), 254);
        due("plain(163)", x.plain(163), 3);
        for (int what : new int[] {-1, 8, 99, 164, LEAST, MOST}) {
            due("plain(" + what + ")", x.plain(what), -100000);
        }
        dueSame("plain", x, before);
    }

    private static void unlikeAndFastest() {
        sentence("UNLIKE so WIDE; -5: it does not end; NONE: no such WIDE, no PROGRAM.");
        LoadsAhead x = bench("#1,7;Sw1,62;Lb2,1;Sh2,63;Lw3,61;Sb3,r2+0", "d9(i=0);d3(i=3);d1+w/3(k=2)");
        int[] before = seen(x);
        for (int wide = -1; wide <= 6; wide++) {
            due("unlike(" + wide + ")", x.unlike(wide), wide >= 1 && wide <= 4 ? 0 : -1);
        }
        due("unlike", x.unlike(LEAST), -1);
        due("unlike", x.unlike(MOST), -1);
        dueSame("unlike", x, before);
        sentence("FASTEST, what 0 WIDE, 1 CYCLES; -5: none ends; NONE: no such what, no PROGRAM.");
        for (int what : new int[] {-1, 2, 3, LEAST, MOST}) {
            due("fastest(" + what + ")", x.fastest(what), -1);
        }
        due("fastest(0)", x.fastest(0) > 0, true);
        due("fastest(1)", x.fastest(1) > 0, true);
        dueSame("fastest", x, before);
        sentence("FASTEST: of WIDE 1 to 4 that with the fewest CYCLES now (of like ones the least).");
        dueFastest("#1,1", "", 1, 2);
        dueFastest("#1,1;#2,2", "", 2, 2);
        dueFastest("#1,1;#2,2;#3,3", "", 3, 2);
        dueFastest("#1,1;#2,2;#3,3;#4,4", "", 4, 2);
        dueFastest("#1,1;#2,2;#3,3;#4,4;#5,5", "", 3, 3);
        dueFastest("#1,1;+1,1,1;+1,1,1", "", 1, 4);
        dueFastest("#1,1;#2,2", "d20(i=1&c=0)", 1, 3);
        dueFastest("#1,1;#2,2;#3,3", "d20(i=2&c=0)", 2, 3);
        dueFastest("Sb1,0;Lb2,9", "d6(i<2)", 2, 7);
    }

    private static void dueFastest(String program, String law, int wide, int cycles) {
        LoadsAhead x = bench(program, law);
        due("fastest(0) of " + program, x.fastest(0), wide);
        due("fastest(1) of " + program, x.fastest(1), cycles);
        due("tried", x.tried(wide, 0), cycles);
    }

    private static void cautiousLoads() {
        sentence("in which each load waits till all stores ahead of it are DONE (its SET is not asked; stores by theirs;"
            + " each that is kept so is counted in CYCLES waited)");
        dueCautious("Sb1,0;Sb2,1;Lb3,9", "d6(i=0)", 9, 6);
        dueCautious("Sb1,0;Sb2,1;Lb3,9", "d6(i=1)", 9, 6);
        dueCautious("Lb3,9;Sb1,0;Sb2,1", "d6(i=1)", 8, 0);
        dueCautious("Sb1,0;Lb3,9;Sb2,1", "d6(i=2)", 7, 1);
        dueCautious("#3,0;Sb1,0;Lb2,r3+0", "d4(i=0);d6(i=1)", 9, 2);
        LoadsAhead x = bench("Sb1,0;Sb1,1;Lh2,0", "d4(i=0);d1(i>0)");
        x.run(4);
        law(x, "d6(i=1);d1(i<9)");
        x.run(4);
        dueOps(x, 1, 0, 0, 0);
        law(x, "d5(i=0);d1(i<9)");
        int[] before = seen(x);
        due("cycles", x.cautious(4, 0), 8);
        due("the store and the load are kept, once each a cycle", x.cautious(4, 5), 11);
        dueSame("cautious", x, before);
        x.forget();
        due("cycles", x.cautious(4, 0), 7);
        due("the load alone", x.cautious(4, 5), 5);
        due("behind wide of them, too", bench("Sb1,0;#1,1;#1,1;Lb2,0", "").cautious(1, 5), 1);
    }

    private static void dueCautious(String program, String law, int cycles, int waited) {
        LoadsAhead x = bench(program, law);
        due("cycles of " + program, x.cautious(4, 0), cycles);
        due("wrong of " + program, x.cautious(4, 1), 0);
        due("waited of " + program, x.cautious(4, 5), waited);
    }

    private static void worst() {
        sentence("WORST, what 0 the OP, 1 how often; no last RUN: -2; NONE: no such what.");
        LoadsAhead x = bench(SMALL, LATE);
        for (int what : new int[] {-1, 2, 3, LEAST, MOST}) {
            due("worst(" + what + ")", x.worst(what), -1);
        }
        due("worst(0)", x.worst(0), -2);
        due("worst(1)", x.worst(1), -2);
        x.run(4);
        for (int what : new int[] {-1, 2, 3, LEAST, MOST}) {
            due("worst(" + what + ")", x.worst(what), -1);
        }
        sentence("the OP that was REPLAYED most often in the last RUN (of like ones the lowest)");
        due("2 and 3 once each", x.worst(0), 2);
        due("once", x.worst(1), 1);
        x.run(4);
        due("none at all", x.worst(0), 0);
        due("none at all", x.worst(1), 0);
        LoadsAhead last = bench("Sb1,0;Sb1,1;Lb2,0;Lh3,0", "d4(i=0);d7(i=1);d1(i>1)");
        last.run(4);
        dueOps(last, 3, 0, 0, 1, 2);
        due("the highest", last.worst(0), 3);
        due("twice", last.worst(1), 2);
        LoadsAhead second = bench("Sb1,0;Lb2,0", "d4(i=0);d1(i=1)");
        second.run(4);
        due("op 1", second.worst(0), 1);
        LoadsAhead all = bench("Sb1,0" + ";Lb2,9".repeat(18) + ";Lb2,0", "d20(i=0);d1(i=19)");
        all.run(4);
        due("op 19", all.worst(0), 19);
        due("once", all.worst(1), 1);
        LoadsAhead first = bench("Sb1,0;Sb1,1;Lh2,0;Lb3,0", "d4(i=0);d7(i=1);d1(i>1)");
        first.run(4);
        dueOps(first, 3, 0, 0, 2, 1);
        due("the lower", first.worst(0), 2);
        due("twice", first.worst(1), 2);
    }

    private static void deepAndMix() {
        sentence("DEEP (no PROGRAM: 0).");
        due("deep", new LoadsAhead().deep(), 0);
        sentence("DEEP: the most OPS one behind the other each of which has the one ahead as a SOURCE.");
        due("one", bench("#1,1", "").deep(), 1);
        due("none is a source", bench("#1,1;#2,1;Sb3,0;Lb4,0", "").deep(), 1);
        due("two", bench("#1,1;Sb1,0", "").deep(), 2);
        due("by the place", bench("#1,1;Sb2,r1+0", "").deep(), 2);
        due("the deeper source", bench("#1,1;+2,1,1;#3,1;+4,3,2;+5,2,3", "").deep(), 3);
        due("the last giver alone", bench("#1,1;+1,1,1;#1,2;+2,1,1", "").deep(), 2);
        due("nineteen", bench("+1,1,1" + ";+1,1,1".repeat(18) + ";#1,1", "").deep(), 19);
        LoadsAhead twenty = bench("+1,1,1" + ";+1,1,1".repeat(19), "");
        due("twenty", twenty.deep(), 20);
        due("a shorter one", program(twenty, "+1,1,1;+1,1,1;+1,1,1"), 3);
        due("three", twenty.deep(), 3);
        sentence("MIX (no PROGRAM: 0).");
        due("no program", new LoadsAhead().mix(), 0);
        sentence("MIX: how many twos of a load and a store ahead of it cover a byte both, in PLAIN from now.");
        due("the load is ahead", bench("Lb1,0;Sb1,0", "").mix(), 0);
        for (int place = 7; place <= 13; place++) {
            due("h at " + place, bench("Sh1," + place + ";Lh2,10", "").mix(), place >= 9 && place <= 11 ? 1 : 0);
            due("w at " + place, bench("Sw1," + place + ";Lb2,10", "").mix(), place >= 7 && place <= 10 ? 1 : 0);
            due("b at " + place, bench("Sb1," + place + ";Lw2,9", "").mix(), place >= 9 && place <= 12 ? 1 : 0);
        }
        for (int place = 58; place < 70; place++) {
            due("w at " + place, bench("Sw1," + place + ";Lb2,0", "").mix(), place >= 61 && place <= 64 ? 1 : 0);
            due("b at " + place, bench("Sb1," + place + ";Lw2,62", "").mix(), place >= 62 && place <= 65 ? 1 : 0);
        }
        due("a two counts once", bench("Sw1,0;Lw2,0", "").mix(), 1);
        due("ten by ten", bench("Sb1,0" + ";Sb1,0".repeat(9) + ";Lb2,0".repeat(10), "").mix(), 100);
        due("a store between", bench("Sb1,0;Lb2,0;Sb1,0;Lb2,0", "").mix(), 3);
        LoadsAhead x = bench("Sb1,5;Lb3,5;Sb1,r3+5;Lb2,r3+5;Lb2,5", "");
        due("from now", x.mix(), 1 + 2 + 2);
        x.register(1, 1);
        int[] before = seen(x);
        due("places as in order", x.mix(), 1 + 1 + 1);
        dueSame("mix", x, before);
        x.register(1, 64);
        due("round", x.mix(), 1 + 2 + 2);
    }

    private static void watching() {
        sentence("WATCHED: two rows, of loads (0), of stores (1), 8 OPS at most each: one that is put into the row that is"
            + " not of its kind, or reckons, is MISPLACED (counted).");
        String program = "#1,1;Lb1,0;Sb1,0;+1,1,1;Lb2,0;Sb2,0";
        for (int row = 0; row <= 1; row++) {
            LoadsAhead x = bench(program, "");
            int misplaced = 0;
            for (int many = 1; many <= 8; many++) {
                for (int op : new int[] {0, 3, 2 - row, 5 - row}) {
                    due("misplaced", x.watch(row, op), -7);
                    misplaced++;
                }
                due("watch", x.watch(row, many % 2 == 0 ? 1 + row : 4 + row), many);
                due("misplaced", x.count(7), misplaced);
                due("watched", x.count(10), many);
            }
            dueFull(x, row);
            due("the other row has room", x.watch(1 - row, 2 - row), 1);
            due("watched", x.count(10), 9);
            for (int i = 0; i < 8; i++) {
                due("watched", x.watched(row, i, 6), i % 2 == 1 ? 1 + row : 4 + row);
            }
            due("a ninth", x.watched(row, 8, 6), -4);
        }
        sentence("An OP is WATCHED in a row (0, 1): how many it has then (the same OP may be there more than once)");
        LoadsAhead x = bench(program, "");
        int[] before = seen(x);
        for (int row : new int[] {-1, 2, 3, LEAST, MOST}) {
            for (int op : new int[] {-1, 0, 1, 2, 6}) {
                due("watch(" + row + ", " + op + ")", x.watch(row, op), -1);
            }
        }
        for (int op : new int[] {-1, 6, 19, 20, LEAST, MOST}) {
            due("watch(0, " + op + ")", x.watch(0, op), -1);
            due("watch(1, " + op + ")", x.watch(1, op), -1);
        }
        dueSame("watch", x, before);
        for (int many = 1; many <= 8; many++) {
            due("the same op", x.watch(0, 4), many);
        }
        sentence("7 MISPLACED (9999 at most)");
        LoadsAhead often = bench(program, "");
        for (int many = 1; many <= 10001; many++) {
            due("watch", often.watch(many % 2, 0), -7);
            due("misplaced", often.count(7), Math.min(9999, many));
        }
    }

    private static void dueFull(LoadsAhead x, int row) {
        sentence("-3: 8 are there (ahead of what follows); -7: MISPLACED; NONE: no such ones.");
        int[] before = seen(x);
        for (int op : new int[] {1 + row, 4 + row, 0, 3, 2 - row, -1, 6, 20, LEAST, MOST}) {
            due("a full row", x.watch(row, op), -3);
        }
        due("no such row", x.watch(2, 1), -1);
        dueSame("a full row", x, before);
    }

    private static void watched() {
        sentence("WATCHED i of a row, what as opIs() 0 to 5, 6 the OP; -4: there are not so many; -100000: no such ones.");
        LoadsAhead x = bench(SMALL, LATE);
        x.watch(0, 2);
        x.watch(1, 1);
        x.watch(1, 1);
        int[] none = {2, -2, -2, -2, -2, -2, 2};
        for (int what = 0; what <= 6; what++) {
            due("no last run", x.watched(0, 0, what), none[what]);
        }
        x.run(4);
        int[] load = {2, 0, 6, 1, 5, 0, 2};
        int[] store = {3, 0, 5, 0, 5, 0, 1};
        for (int what = 0; what <= 6; what++) {
            due("load", x.watched(0, 0, what), load[what]);
            due("store", x.watched(1, 0, what), store[what]);
            due("store", x.watched(1, 1, what), store[what]);
            due("not so many", x.watched(0, 1, what), -4);
            due("not so many", x.watched(1, 2, what), -4);
            due("not so many", x.watched(1, 7, what), -4);
            due("not so many", x.watched(1, 8, what), -4);
            due("not so many", x.watched(1, MOST, what), -4);
            due("no such i", x.watched(1, -1, what), -100000);
            due("no such i", x.watched(1, LEAST, what), -100000);
            for (int row : new int[] {-1, 2, LEAST, MOST}) {
                due("no such row", x.watched(row, 0, what), -100000);
            }
        }
        for (int what : new int[] {-1, 7, 10, 13, LEAST, MOST}) {
            due("no such what", x.watched(0, 0, what), -100000);
            due("no such what", x.watched(1, 1, what), -100000);
        }
    }

    private static void forgetting() {
        sentence("SETS go (of all OPS; the next number stays): how many OPS had one.");
        due("no program", new LoadsAhead().forget(), 0);
        LoadsAhead x = bench("Sb1,0" + ";Lb2,0".repeat(19), "d9(i=0);d1(i>0)");
        due("none yet", x.forget(), 0);
        x.run(4);
        due("had one", x.count(8), 20);
        int next = x.count(9);
        due("all twenty", x.forget(), 20);
        due("none any more", x.forget(), 0);
        due("none any more", x.count(8), 0);
        due("the next stays", x.count(9), next);
        due("the next", next, 1);
        due("the last run stays", x.lastRun(1), 19);
        for (int op = 0; op < 20; op++) {
            due("set", x.opIs(op, 1), -2);
        }
    }

    private static void seeding() {
        sentence("THE SEED (0 to 65535; X, too): true; false: no such number.");
        LoadsAhead x = bench("#1,1", "d3+w(i=i)");
        for (int seed : new int[] {0, 1, 2, 32767, 32768, 65534, 65535}) {
            due("seed(" + seed + ")", x.seed(seed), true);
            due("X", x.count(6), seed);
        }
        int[] before = seen(x);
        for (int seed : new int[] {-1, 65536, 65537, LEAST, MOST}) {
            due("seed(" + seed + ")", x.seed(seed), false);
            dueSame("seed(" + seed + ")", x, before);
        }
    }

    private static void keeping() {
        sentence("UNDONE: true; false: none was KEPT.");
        LoadsAhead x = bench(SMALL, LATE);
        x.run(4);
        int[] before = seen(x);
        due("undo", x.undo(), false);
        dueSame("undo", x, before);
        sentence("KEPT: RUNS.");
        due("keep", new LoadsAhead().keep(), 0);
        due("keep", x.keep(), 1);
        dueSame("keep", x, before);
        sentence("KEPT: REGISTERS, MEMORY, SETS with the next number, RUNS, X; UNDONE: as they were KEPT last");
        due("undo", x.undo(), true);
        dueSame("undo of nothing", x, before);
        change(x);
        due("undo", x.undo(), true);
        dueKept(x);
        change(x);
        due("undo once more", x.undo(), true);
        dueKept(x);
        change(x);
        int[] later = seen(x);
        due("keep", x.keep(), 2);
        x.register(0, -9);
        x.poke(63, 0);
        x.seed(6);
        due("undo", x.undo(), true);
        dueSame("undo: as they were kept last", x, later);
        notKept();
    }

    /** All that is kept becomes something else. */
    private static void change(LoadsAhead x) {
        x.forget();
        x.run(4);
        x.register(0, 70);
        x.register(7, 77);
        x.poke(0, 8);
        x.poke(63, 88);
        x.seed(4711);
        due("next", x.count(9), 2);
        due("set", x.opIs(2, 1), 1);
    }

    private static void dueKept(LoadsAhead x) {
        dueCounts(x, 1, 4, 1, 1, 2, 0, 21259, 0, 2, 1, 0, 1);
        due("register", x.now(0), 0);
        due("register", x.now(7), 0);
        due("memory", x.now(100), 5);
        due("memory", x.now(163), 0);
        due("set", x.opIs(2, 1), 0);
        due("set", x.opIs(0, 1), -2);
    }

    private static void notKept() {
        LoadsAhead x = bench(SMALL, LATE);
        x.keep();
        x.run(4);
        x.watch(0, 2);
        x.watch(0, 1);
        law(x, "d3(i=i)");
        x.feed(0, 0, 0, 0, 0);
        due("undo", x.undo(), true);
        dueCounts(x, 0, 4, 1, 1, 1, 20, 1, 1, 0, 0, 1, 0);
        due("the last run stays", x.lastRun(0), 8);
        sentence("(is a PROGRAM told since: SETS and the next number stay as they are)");
        LoadsAhead sets = bench(SMALL, LATE);
        sets.run(4);
        sets.keep();
        sets.forget();
        for (String refused : new String[] {"#1,12345", "y", "#1,1;"}) {
            due("a fault", program(sets, refused) < 0, true);
        }
        due("no such n", sets.program(0), -1);
        sets.undo();
        due("none is told: sets come back", sets.count(8), 2);
        due("next", sets.count(9), 1);
        due("told", program(sets, SMALL), 4);
        sets.register(0, 9);
        due("undo", sets.undo(), true);
        due("sets stay", sets.count(8), 0);
        due("next stays", sets.count(9), 0);
        due("registers don't", sets.now(0), 0);
        sets.seed(5);
        sets.run(4);
        sets.forget();
        sets.run(4);
        due("next", sets.count(9), 2);
        due("undo", sets.undo(), true);
        due("sets stay", sets.opIs(2, 1), 1);
        due("next stays", sets.count(9), 2);
        due("runs don't", sets.count(0), 1);
        due("X does not", sets.count(6), 21259);
        due("keep", sets.keep(), 1);
        sets.forget();
        due("undo", sets.undo(), true);
        due("kept anew", sets.opIs(2, 1), 1);
    }

    private static void checking() {
        sentence("CHECK by the first n bytes of the tape (0 to 64; empty then): NONE: right; else the first that is not so;"
            + " -2: no such n, it has not so many (the tape stays).");
        LoadsAhead x = new LoadsAhead();
        for (int at = 0; at < 64; at++) {
            x.poke(at, 255 - at);
        }
        feedMemory(x);
        for (int n : new int[] {-1, 65, 80, 81, LEAST, MOST}) {
            due("check(" + n + ")", x.check(n), -2);
            due("the tape stays", x.count(5), 80);
        }
        due("check(64)", x.check(64), -1);
        due("empty then", x.count(5), 0);
        due("check(1)", x.check(1), -2);
        due("check(0)", x.check(0), -1);
        x.feed(0xfffefdfc, 0, 0, 0, 0);
        due("check(21)", x.check(21), -2);
        due("the tape stays", x.count(5), 20);
        due("check(0)", x.check(0), -1);
        due("empty then", x.count(5), 0);
        sentence("CHECK: MEMORY from 0 on: right, or the first that is not so.");
        x.feed(0xfffefdfc, 0, 0, 0, 0);
        due("right so far", x.check(4), -1);
        x.feed(0xfffefdfc, 0, 0, 0, 0);
        due("just beyond", x.check(5), 4);
        x.feed(0xfffefdfc, 0, 0, 0, 0);
        due("the first", x.check(20), 4);
        for (int at = 0; at < 64; at++) {
            feedMemory(x);
            x.poke(at, at);
            due("one is not so", x.check(64), at);
            x.poke(at, 255 - at);
            feedMemory(x);
            x.poke(at, at);
            due("not one of the first " + at, x.check(at), -1);
            x.poke(at, 255 - at);
            feedMemory(x);
            x.poke(at, at);
            x.poke(63, 63);
            due("the first of two", x.check(64), at);
            x.poke(at, 255 - at);
            x.poke(63, 192);
        }
    }

    /** The tape becomes what memory is, and 16 bytes more. */
    private static void feedMemory(LoadsAhead x) {
        int[] four = new int[20];
        for (int at = 0; at < 64; at++) {
            four[at / 4] = four[at / 4] << 8 | x.now(100 + at);
        }
        for (int i = 0; i < 20; i += 5) {
            x.feed(four[i], four[i + 1], four[i + 2], four[i + 3], four[i + 4]);
        }
    }

    private static void counting() {
        sentence("0 RUNS, 1 OPS, 2 loads, 3 stores, 4 RULES, 5 bytes of the tape, 6 X");
        LoadsAhead x = bench("#1,5;Sb1,0;Lb2,0;Lb3,9;Lb4,0;Sh1,62;Lw5,20;#1,1", LATE + ";x(i=9)");
        x.run(4);
        x.run(4);
        x.feed(0, 0, 0, 0, 0);
        x.feed(0, 0, 0, 0, 0);
        x.seed(77);
        x.watch(0, 2);
        x.watch(0, 3);
        x.watch(1, 5);
        x.watch(1, 2);
        dueCounts(x, 2, 8, 4, 2, 3, 40, 77, 1);
        sentence("8 OPS that have a SET, 9 the next SET's number, 10 OPS in the WATCHED rows, 11 bytes of MEMORY that are not"
            + " 0. NONE for others.");
        due("count(8)", x.count(8), 3);
        due("count(9)", x.count(9), 1);
        due("count(10)", x.count(10), 3);
        due("count(11)", x.count(11), 2);
        for (int at = 0; at < 64; at++) {
            x.poke(at, 1);
        }
        due("all are not 0", x.count(11), 64);
        x.poke(63, 0);
        due("all but one", x.count(11), 63);
        x.poke(0, 0);
        due("all but two", x.count(11), 62);
        for (int what : new int[] {-1, 12, 13, 100, LEAST, MOST}) {
            due("count(" + what + ")", x.count(what), -1);
        }
        LoadsAhead full = bench("Lb1,0" + ";Lb1,0".repeat(19), "");
        due("loads", full.count(2), 20);
        due("stores", full.count(3), 0);
        LoadsAhead stores = bench("Sb1,0" + ";Sb1,0".repeat(19), "");
        due("loads", stores.count(2), 0);
        due("stores", stores.count(3), 20);
    }

    private static void refused() {
        sentence("A call that is refused (NONE, false) changes nothing but the tape, where it is told.");
        LoadsAhead x = bench(SMALL, LATE);
        x.run(4);
        x.watch(0, 2);
        x.keep();
        x.register(4, 4);
        for (int i = 0; i < 13; i++) {
            x.feed(0x01020304, 0, 0, 0, 0);
        }
        int[] before = seen(x);
        int refused = 0;
        refused += (x.register(8, 1) ? 0 : 1) + (x.poke(64, 1) ? 0 : 1) + (x.poke(0, 256) ? 0 : 1) + (x.seed(65536) ? 0 : 1);
        refused -= x.feed(1, 2, 3, 4, 5) + x.law(0) + x.law(241) + x.program(0) + x.program(241);
        refused -= x.run(0) + x.run(5) + x.tried(5, 0) + x.tried(1, 6) + x.lastRun(6) + x.source(9, 0) + x.source(0, 9);
        refused -= x.unlike(5) + x.fastest(2) + x.cautious(5, 0) + x.cautious(1, 6) + x.worst(2) + x.watch(2, 2) + x.watch(0, 4);
        refused -= x.count(12);
        due("refused", refused, 24);
        dueSame("24 refused calls", x, before);
        due("the tape's bytes stay", x.check(1), 0);
        for (String text : new String[] {"1", "#1,12345", "d1(i=i", "x(i=123456"}) {
            before = seen(x);
            due("a fault", program(x, text) < 0, true);
            dueSame("a program with a fault", x, before);
            due("a fault", law(x, text) < 0, true);
            dueSame("a law with a fault", x, before);
        }
    }

    public static void main(String[] args) {
        newObject();
        ofItsOwn();
        registerAndPoke();
        feeding();
        texts();
        running();
        lastRun();
        ofAnOp();
        sourceOf();
        nowAndPlain();
        unlikeAndFastest();
        cautiousLoads();
        worst();
        deepAndMix();
        watching();
        watched();
        forgetting();
        seeding();
        keeping();
        checking();
        counting();
        refused();
        end();
    }
}
