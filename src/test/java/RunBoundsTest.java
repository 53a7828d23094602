/** The sentences of the document's part 2 that name bounds of a run, reckoned by hand. */
public final class RunBoundsTest extends Bench {
    private static void wide() {
        sentence("A RUN, so WIDE (1 to 4).");
        int[] cycles = {6, 4, 3, 3};
        for (int wide = 1; wide <= 4; wide++) {
            due("run(" + wide + ")", bench("#1,1;#2,1;#3,1;#4,1;#5,1", "").run(wide), cycles[wide - 1]);
        }
        LoadsAhead x = bench("#1,1;#2,1;#3,1;#4,1;#5,1", "");
        int[] before = seen(x);
        for (int wide : new int[] {0, 5, -1, Integer.MIN_VALUE, Integer.MAX_VALUE}) {
            due("run(" + wide + ")", x.run(wide), -1);
            dueSame("run(" + wide + ")", x, before);
        }
        sentence("Then OPS go OFF, by numbers, WIDE at most");
        LoadsAhead one = bench("#1,1;+2,1,1;#3,3;#4,4", "d5(i=0)");
        one.run(1);
        dueOps(one, 2, 5, 6, 2, 3);
        LoadsAhead two = bench("#1,1;#2,1;#3,3;#4,4;#5,5", "");
        two.run(2);
        dueOps(two, 2, 1, 1, 2, 2, 3);
        sentence("(one whose SOURCE was DONE in this CYCLE can go, too)");
        due("a chain", bench("#1,1;+2,1,1;+3,2,2", "").run(1), 4);
        LoadsAhead slow = bench("#1,1;+2,1,1;+3,2,2", "d20(i=0)");
        slow.run(4);
        dueOps(slow, 2, 20, 21, 22);
    }

    private static void sources() {
        sentence("for each REGISTER it reads the last OP ahead of it that gives it one (none: the REGISTER as at the"
            + " RUN's beginning)");
        LoadsAhead x = bench("+1,1,1;+1,1,1;#1,5;+1,1,1;+2,1,3;#3,9", "");
        int[] wanted = {-2, 0, -2, 2, 3, -2};
        for (int op = 0; op < wanted.length; op++) {
            due("source(" + op + ", 1)", x.source(op, 1), wanted[op]);
        }
        due("one behind it does not count", x.source(4, 3), -2);
        x.register(1, 3);
        x.register(3, 100);
        x.run(4);
        dueOps(x, 4, 6, 12, 5, 10, 110, 9);
        sentence("A store reads the REGISTER that it stores and that of its PLACE.");
        LoadsAhead moves = bench("#1,1;#2,2;Sb1,r2+0;Sb1,r1+0;Sb1,2;Lb1,r2+0;Lb2,2", "");
        due("what it stores", moves.source(2, 1), 0);
        due("of its place", moves.source(2, 2), 1);
        due("both", moves.source(3, 1), 0);
        due("a number", moves.source(4, 2), -2);
        due("a load does not read what it gives", moves.source(5, 1), -2);
        due("of its place", moves.source(5, 2), 1);
        due("a load of a number reads none", moves.source(6, 2), -2);
    }

    private static void stages() {
        sentence("An OP is WAITING (at first), OFF (till a CYCLE), or DONE.");
        for (int delay = 1; delay <= 20; delay++) {
            LoadsAhead x = bench("#1,1;Lb2,0;Sb3,0", "d" + delay + "(i=i)");
            due("run", x.run(1), delay + 3);
            dueOps(x, 2, delay, delay + 1, delay + 2);
        }
        sentence("one that is WAITING, all of whose SOURCES are DONE, and that need not wait by its SET");
        for (String reads : new String[] {"+3,1,2", "+3,2,1", "Sb1,r2+0", "Sb2,r1+0"}) {
            for (int late = 0; late <= 1; late++) {
                LoadsAhead x = bench("#1,1;#2,2;" + reads, "d3(i=" + (1 - late) + ");d7(i=" + late + ")");
                x.run(4);
                due("behind both", x.opIs(2, 2), 8);
            }
        }
        sentence("One that reckons has its value by its SOURCES' as they are.");
        LoadsAhead again = bench("Sb1,0;Lb2,0;+3,2,2;>4,3,2", "d9(i=0);d1(i>0)");
        again.register(1, 5);
        again.poke(0, 100);
        again.run(4);
        dueOps(again, 3, 0, 1, 1, 1);
        dueOps(again, 4, 5, 5, 10, 1);
        sentence("In order (PLAIN) each OP is done one behind the other.");
        LoadsAhead plain = bench("#1,5;Sb1,0;#1,6;Lb2,0;Sb1,0;Lb3,0;-1,3,2", "d9(i=0)");
        due("r1", plain.plain(1), 1);
        due("r2", plain.plain(2), 5);
        due("r3", plain.plain(3), 6);
        due("memory", plain.plain(100), 6);
    }

    private static void cycles() {
        sentence("CYCLES (how many, CYCLE 0 with them)");
        LoadsAhead least = bench("#1,1", "");
        due("off at 0, done at 1", least.run(1), 2);
        due("lastRun(0)", least.lastRun(0), 2);
        due("one done at 20", bench("#1,1", "d20(i=i)").run(1), 21);
        due("twenty one behind the other", bench("+1,1,1" + ";+1,1,1".repeat(19), "d20(i=i)").run(1), 401);
        sentence("The RUN ends behind the first CYCLE at which all OPS are DONE and all stores RETIRED");
        due("a store", bench("Sb1,0", "").run(1), 2);
        due("two, one a cycle", bench("Sb1,0;Sb1,1", "").run(4), 3);
        due("twenty, one a cycle", bench("Sb1,0" + ";Sb1,0".repeat(19), "").run(4), 21);
        due("an op is done later", bench("Sb1,0;#2,1", "d9(i=1)").run(4), 10);
        due("a store is done later", bench("Sb1,0;#2,1", "d9(i=0)").run(4), 10);
        sentence("REGISTERS become what the last OPS that give them gave.");
        for (int late = 0; late < 3; late++) {
            LoadsAhead x = bench("#1,5;#1,6;#2,7", "d9(i=" + late + ")");
            x.register(3, 33);
            due("run", x.run(4), 10);
            due("the last op, whenever it was done", x.now(1), 6);
            due("one that is given once", x.now(2), 7);
            due("one that none gives", x.now(3), 33);
        }
    }

    private static void done() {
        sentence("First each OP that is OFF till this CYCLE, by numbers, is DONE.");
        int[][] wanted = {{10, 1, 1}, {6, 0, 0}, {7, 0, 0}};
        for (int late = 4; late <= 6; late++) {
            LoadsAhead x = bench("Sb1,0;Lb2,0", "d5(i=0);d" + late + "(i=1)");
            x.register(1, 9);
            x.poke(0, 3);
            x.run(4);
            dueLast(x, wanted[late - 4]);
            due("from the store", x.opIs(1, 10), 0);
            due("its byte", x.now(2), 9);
        }
        sentence("takes each byte from the youngest store ahead of it that is DONE and covers it");
        LoadsAhead two = bench("Sb1,0;Sb2,0;Lb3,0;Sb4,0", "d1(k=3);d3(k=2)");
        two.run(4);
        due("the youngest ahead", two.opIs(2, 10), 1);
        due("none was wrong", two.lastRun(1), 0);
        LoadsAhead beside = bench("Sb1,0;Sb2,1;Lb3,0", "d1(k=3);d3(k=2)");
        beside.run(4);
        due("the youngest that covers it", beside.opIs(2, 10), 0);
        LoadsAhead late = bench("Sb1,0;Sb2,0;Lb3,0;Lb4,0", "d1(i=0);d9(i=1);d2(i=2);d9(i=3)");
        late.run(4);
        due("wrong when the youngest is done", late.lastRun(1), 1);
        due("replayed", late.opIs(2, 3), 1);
        due("it was done in this cycle", late.opIs(3, 3), 0);
        for (int place = 5; place <= 13; place++) {
            dueTaken(place, 8);
        }
        for (int place = 58; place <= 69; place++) {
            dueTaken(place, 61);
            dueTaken(place, 63);
        }
    }

    /** A store of two bytes, done ahead of a load of four: from which byte of the load on it gives. */
    private static void dueTaken(int store, int load) {
        LoadsAhead x = bench("Sh1," + store + ";Lw2," + load, "d1(k=3);d3(k=2)");
        x.run(4);
        for (int i = 0; i < 4; i++) {
            boolean first = (load + i) % 64 == store % 64;
            boolean second = (load + i) % 64 == (store + 1) % 64;
            due("byte " + i + " of a load at " + load, x.opIs(1, 10 + i), first || second ? 0 : -2);
        }
        due("no fifth byte", x.opIs(1, 14), -4);
    }

    private static void fromMemory() {
        sentence("else from MEMORY as it was at the RUN's beginning (of each byte it is known from which: a store, or"
            + " none)");
        LoadsAhead x = bench("#3,0;Lb1,r3+0;Sb2,0", "d6(i=0)");
        x.poke(0, 7);
        x.register(2, 9);
        due("run", x.run(4), 9);
        dueLast(x, 9, 0, 0, 1, 0, 0);
        due("not what a store behind it brought", x.now(1), 7);
        due("from none", x.opIs(1, 10), -2);
        due("memory", x.now(100), 9);
        due("the next run begins with that", x.plain(1), 9);
        due("run", x.run(4), 9);
        due("the next run begins with that", x.now(1), 9);
    }

    private static int drawn(int times) {
        int x = 1;
        for (int i = 0; i < times; i++) {
            x = (25173 * x + 13849) % 65536;
        }
        return x;
    }

    private static void draws() {
        sentence("with a DRAW (d asked with it) it is OFF till so many CYCLES later");
        for (int ops = 1; ops <= 20; ops++) {
            LoadsAhead x = bench("#1,1" + ";#1,1".repeat(ops - 1), "");
            x.run(3);
            due("a draw for each op", x.count(6), drawn(ops));
        }
        LoadsAhead by = bench("#1,1;#2,2", "d1+w(i=i)");
        by.run(2);
        dueOps(by, 2, 3, 8);
        LoadsAhead apart = bench("#1,1;#2,2", "d1+w(i=i)");
        apart.run(1);
        dueOps(apart, 2, 3, 9);
        LoadsAhead again = bench("Sb1,0;Lb2,0;+3,2,2", "d6(i=0)");
        again.run(4);
        due("replayed", again.lastRun(2), 2);
        due("one that goes off again draws again", again.count(6), drawn(5));
        again.seed(1);
        again.run(4);
        due("kept", again.lastRun(5), 6);
        due("one that is kept draws once, when it goes", again.count(6), drawn(3));
        sentence("X = (25173 X + 13849) modulo 65536 (X is THE SEED at first, 1): X modulo 10.");
        due("X at first", new LoadsAhead().count(6), 1);
        int[] seeds = {0, 1, 65535, 32768, 1901, 25, 12};
        int[] next = {13849, 39022, 54212, 46617, 26442, 53350, 53781};
        for (int i = 0; i < seeds.length; i++) {
            LoadsAhead x = bench("#1,1", "d3+w(i=i)");
            x.seed(seeds[i]);
            due("run", x.run(1), 4 + next[i] % 10);
            due("X", x.count(6), next[i]);
        }
    }

    private static void kept() {
        sentence("(Each that its SET keeps from it is counted, also behind WIDE of them.)");
        LoadsAhead x = bench("#1,5;Sb1,0;#3,1;#4,1;Lb2,0", "d4(i=0);d1(k=2)");
        x.run(4);
        due("waited at first", x.lastRun(5), 0);
        for (int wide = 1; wide <= 4; wide++) {
            due("from 0 to 4", x.tried(wide, 5), 5);
        }
        LoadsAhead room = bench("#1,5;Sb1,0;Lb2,0;#4,1;#5,1", "d4(i=0);d1(k=2)");
        room.run(4);
        room.run(1);
        due("one that is kept leaves room for one behind it", room.opIs(3, 2), 2);
        due("and the next", room.opIs(4, 2), 3);
        due("kept from 0 to 4", room.lastRun(5), 5);
        sentence("an OP whose SOURCES were DONE was kept from going OFF by its SET");
        LoadsAhead late = bench("#1,5;Sb1,0;#3,0;Lb2,r3+0", "d4(i=0);d3(i=2);d1(k=2)");
        late.run(4);
        dueLast(late, 7, 1, 1, 0, 0, 0);
        late.run(4);
        dueLast(late, 7, 0, 0, 0, 0, 2);
    }

    private static void retired() {
        sentence("Then one store may be RETIRED: the oldest that is DONE and not RETIRED");
        LoadsAhead x = bench("Sb1,0;Sb2,0;Sb3,0", "");
        x.register(1, 10);
        x.register(2, 20);
        x.register(3, 30);
        due("one a cycle", x.run(4), 4);
        dueLast(x, 4, 0, 0, 0, 0, 0);
        due("the youngest last", x.now(100), 30);
        sentence("x a store is not retired ahead (any will do; without an x in THE LAW each may be)");
        dueAhead("", 1);
        dueAhead(";x(i=0)", 1);
        dueAhead(";x(i=1)", 0);
        dueAhead(";x(i=0);x(i=1)", 0);
        dueAhead(";x(i=1);x(i=0)", 0);
        dueAhead(";x(i=0);x(i=2)", 1);
        sentence("(asked of it alone, with no DRAW: w is 0)");
        dueAhead(";x(w>0)", 1);
        dueAhead(";x(w=0)", 0);
        dueAhead(";x(k=3&i=1&n=0&r=0&s=16)", 0);
        sentence("it is not, and no other one in this CYCLE, unless all OPS ahead of it are DONE");
        due("none is ahead of it", bench("Sb1,0", "x(i=i)").run(1), 2);
        LoadsAhead held = bench("#1,7;Sb2,0;Sb2,1", "d6(i=0);x(i=1)");
        due("1 at 6, 2 at 7", held.run(4), 8);
        due("none ahead", held.lastRun(3), 0);
        LoadsAhead second = bench("#1,7;Sb2,0;Sb2,1", "d6(i=0);x(i=2)");
        due("1 ahead at 1, 2 at 6", second.run(4), 7);
        due("one ahead", second.lastRun(3), 1);
        // store 1 can go ahead at 4 alone
        LoadsAhead once = bench("#1,7;Sb2,0", "d6(i=0);x(!c=4)");
        once.run(4);
        due("in one cycle", once.lastRun(3), 1);
        LoadsAhead late = bench("#1,7;Sb2,0", "d6(i=0);x(c<6)");
        due("at 6 op 0 is done", late.run(4), 7);
        due("in none", late.lastRun(3), 0);
    }

    /** How often store 1, done at 1 while op 0 is off till 6, is retired ahead. */
    private static void dueAhead(String rules, int ahead) {
        LoadsAhead x = bench("#1,7;Sb2,0", "d6(i=0)" + rules);
        due("run with " + rules, x.run(4), 7);
        due("ahead with " + rules, x.lastRun(3), ahead);
        due("no draw of x", x.count(6), drawn(2));
    }

    private static void undone() {
        sentence("Those behind it that are RETIRED are UNDONE first, from the youngest on (MEMORY is as it was remembered;"
            + " they are not RETIRED any more); then what is there where its bytes go is remembered, and they come into"
            + " MEMORY.");
        LoadsAhead x = bench("#1,7;Sb1,0;Sb2,0;Sb3,0", "d6(i=0)");
        x.poke(0, 5);
        x.register(2, 20);
        x.register(3, 30);
        due("2 ahead at 1, 3 at 2, 1 at 7, 2 at 8, 3 at 9", x.run(4), 10);
        dueLast(x, 10, 0, 0, 2, 2, 0);
        due("memory", x.now(100), 30);
        LoadsAhead ends = bench("#1,7;Sw1,61;Sh2,63;Sb3,0", "d6(i=0)");
        ends.register(2, 0x2221);
        ends.register(3, 0x31);
        ends.run(4);
        due("byte 61", ends.now(161), 7);
        due("byte 63", ends.now(163), 0x21);
        due("byte 0", ends.now(100), 0x31);
        due("unlike", ends.unlike(4), 0);
        sentence("how often a store was RETIRED while an OP ahead of it was not DONE (one that is RETIRED again so, again)");
        LoadsAhead again = bench("#1,7;#4,9;+5,4,4;Sb1,0;Sb2,0", "d6(i=0);d20(i=1)");
        due("run", again.run(4), 22);
        dueLast(again, 22, 0, 0, 3, 1, 0);
        besideTheUndone();
        sentence("UNDONE: how often one was");
        // store 4 is undone at 5 by store 2 and at 9 by store 3
        LoadsAhead twice = bench("#1,1;#2,1;Sb1,0;Sb2,1;Sb3,2", "d4(i=0);d8(i=1)");
        due("run", twice.run(4), 11);
        dueLast(twice, 11, 0, 0, 3, 2, 0);
        sentence("A store that is REPLAYED and was RETIRED: all RETIRED ones from the youngest down to it are UNDONE.");
        LoadsAhead older = bench("#3,1;#1,7;Sb5,20;Sb1,0;Lb2,0;Sb2,30;Sb5,21", "d20(i=0);d6(i=1);d1(k=2);x(i=3)");
        due("run", older.run(4), 23);
        dueLast(older, 23, 1, 2, 3, 2, 0);
        undoneElsewhere();
    }

    /** Stores of each size are retired ahead and undone by store 1; no byte beside them changes. */
    private static void besideTheUndone() {
        LoadsAhead x = bench("#1,7;Sb1,40;Sw2,20;Sh2,30;Sb2,35;#3,0;Sw2,50" + ";#3,0".repeat(12) + ";Sw2,60", "d20(i=0)");
        for (int at = 0; at < 64; at++) {
            x.poke(at, 100 + at);
        }
        x.run(4);
        due("ahead", x.lastRun(3), 5);
        due("undone", x.lastRun(4), 5);
        for (int at = 0; at < 64; at++) {
            boolean stored = at >= 20 && at < 24 || at >= 30 && at < 32 || at == 35 || at >= 50 && at < 54 || at >= 60;
            due("byte " + at, x.now(100 + at), stored ? 0 : at == 40 ? 7 : 100 + at);
        }
    }

    /** Stores 4, 5 were retired at 61 to 0; replayed, they go to 1 to 4, and what they covered is as it was. */
    private static void undoneElsewhere() {
        LoadsAhead x = bench("#3,1;#1,7;Sb1,0;Lb2,0;Sw5,r2+58;Sw6,r2+58", "d20(i=0);d6(i=1);d1(k=2);x(i=2)");
        x.register(5, 0x14131211);
        x.register(6, 0x04030201);
        int[] before = {3, 0, 0, 0, 0, 8, 10, 11, 12, 13};
        int[] after = {7, 1, 2, 3, 4, 8, 10, 11, 12, 13};
        for (int i = 0; i < 10; i++) {
            x.poke(i < 6 ? i : 54 + i, before[i]);
        }
        due("run", x.run(4), 23);
        dueLast(x, 23, 1, 3, 2, 2, 0);
        for (int i = 0; i < 10; i++) {
            due("byte " + i, x.now(100 + (i < 6 ? i : 54 + i)), after[i]);
        }
    }

    private static void looksBack() {
        sentence("each load behind it that is DONE, and took a byte that the store covers from MEMORY or from a store ahead"
            + " of this one, is WRONG");
        LoadsAhead x = bench("Sh1,10;Lb2,9;Lb3,10;Lb4,11;Lb5,12", "d9(i=0);d1(k=2)");
        due("run", x.run(4), 11);
        dueLast(x, 11, 2, 2, 0, 0, 0);
        dueOps(x, 3, 0, 0, 1, 1, 0);
        dueOps(x, 1, 0, -2, 0, 0, -2);
        LoadsAhead ends = bench("Sh1,63;Lb2,62;Lb3,63;Lb4,0;Lb5,1", "d9(i=0);d1(k=2)");
        ends.run(4);
        dueOps(ends, 3, 0, 0, 1, 1, 0);
        for (int place = 6; place <= 13; place++) {
            LoadsAhead one = bench("Sb1," + place + ";Lw2,8", "d9(i=0);d1(k=2)");
            one.run(4);
            due("a store at " + place, one.lastRun(1), place >= 8 && place <= 11 ? 1 : 0);
        }
        dueWrong("Lb2,0;Sb1,0", "d1(i=0);d9(i=1)", 0);
        dueWrong("Sb1,0;Lb2,0", "d9(i=0);d8(i=1)", 1);
        dueWrong("Sb1,0;Lb2,0", "d9(i=0);d9(i=1)", 0);
        dueWrong("Sb1,0;Sb2,0;Lb3,0", "d1(i=0);d9(i=1);d2(k=2)", 1);
        dueWrong("Sb1,0;Sb2,0;Lb3,0", "d9(i=0);d1(i=1);d2(k=2)", 0);
        dueWrong("Sb1,0;Sb2,0;Lb3,0", "d9(i=0);d9(i=1);d2(k=2)", 1);
        dueWrong("Sb1,0;Sb2,0;Lb3,0", "d9(i=0);d11(i=1);d2(k=2)", 1);
        dueWrong("Sb1,0;Sb2,0;Lb3,0", "d9(i=0);d12(i=1);d2(k=2)", 2);
        dueWrong("Sb1,3;Sb2,0;Lw3,0", "d9(i=0);d1(i=1);d2(k=2)", 1);
        dueWrong("Sb1,3;Sh2,0;Lh3,0", "d9(i=0);d1(i=1);d2(k=2)", 0);
        for (int place = 0; place < 4; place++) {
            dueWrong("Sb1," + place + ";Sb2," + place + ";Lw3,0", "d9(i=0);d1(i=1);d2(k=2)", 0);
            dueWrong("Sb1," + place + ";Sb2," + place + ";Lw3,0", "d1(i=0);d9(i=1);d2(k=2)", 1);
        }
        dueWrong("Sw1,0;Sb2,0;Lb3,0", "d9(i=0);d1(i=1);d2(k=2)", 0);
        dueWrong("Sw1,0;Sb2,0;Lh3,0", "d9(i=0);d1(i=1);d2(k=2)", 1);
    }

    private static void dueWrong(String program, String law, int wrong) {
        LoadsAhead x = bench(program, law);
        x.run(4);
        due("wrong ones of " + program + " by " + law, x.lastRun(1), wrong);
        due("unlike", x.unlike(4), 0);
    }

    private static void replayed() {
        sentence("WRONG loads (each time one); REPLAYED OPS (each time one)");
        for (int stores = 1; stores <= 4; stores++) {
            // store i is done at 4 i + 4, the load behind them two cycles after each
            LoadsAhead often = bench("Sb1,0;".repeat(stores) + "Lb2,0;+3,2,2", "d4*i+4(k=3)");
            often.run(4);
            due("wrong", often.lastRun(1), stores);
            due("replayed", often.lastRun(2), 2 * stores);
            due("of the load", often.opIs(stores, 3), stores);
            due("of what depends on it", often.opIs(stores + 1, 3), stores);
        }
        sentence("(one that is WAITING by then is WRONG all the same, but not REPLAYED once more)");
        LoadsAhead twice = bench("#1,2;Sb1,2;Lb2,2;Lb3,r2+2", "d6(i=0);d1(k=2)");
        due("run", twice.run(4), 10);
        dueLast(twice, 10, 2, 2, 0, 0, 0);
        dueOps(twice, 3, 0, 0, 1, 1);
        LoadsAhead apart = bench("#1,2;Sb1,2;Lb2,2;Lb3,2", "d6(i=0);d1(k=2)");
        apart.run(4);
        dueLast(apart, 9, 2, 2, 0, 0, 0);
        sentence("REPLAYED is an OP: it is WAITING; with it each that is not WAITING (DONE or OFF) and has it as a SOURCE");
        LoadsAhead off = bench("Sb1,0;Lb2,0;+3,2,2;+4,3,3;#6,1;+5,2,6", "d6(i=0);d9(i=3);d20(i=4);d1(i=1)");
        due("run", off.run(4), 22);
        dueLast(off, 22, 1, 3, 0, 0, 0);
        dueOps(off, 3, 0, 1, 1, 1, 0, 0);
        dueOps(off, 2, 6, 7, 8, 17, 20, 21);
        LoadsAhead by = bench("Sb1,0;Lb2,0;#4,1;+3,2,4;+3,4,2;+3,4,4;Sb2,9;Sb4,r2+9;Lb5,r2+9;Sb4,r4+9", "d9(i=0);d1(i>0)");
        by.run(4);
        due("by what it reads", by.lastRun(1) > 0, true);
        dueOps(by, 3, 0, 1, 0, 1, 1, 0, 1, 1);
        sentence("and each load that is DONE and took a byte from it (a store), and so on");
        LoadsAhead along = bench("#1,7;Sb1,0;Lb2,0;Sb2,1;Lb3,1;+4,3,3", "d9(i=0);d1(k=2);d1(k=3)");
        due("run", along.run(4), 15);
        dueLast(along, 15, 2, 6, 1, 1, 2);
        dueOps(along, 3, 0, 0, 1, 1, 2, 2);
        for (int place = 5; place <= 10; place++) {
            // the load at 6 to 9 is done behind store 3, which is at this place
            LoadsAhead word = bench("#1,7;Sb1,0;Lb2,0;Sb2," + place + ";Lw3,6", "d9(i=0);d1(i=2);d1(i=3);d4(i=4)");
            word.run(4);
            due("took a byte of " + place, word.opIs(4, 3), place >= 6 && place <= 9 ? 1 : 0);
        }
        // of three loads only the middle one took from store 3, its last byte or its first
        for (int place : new int[] {20, 23}) {
            LoadsAhead middle = bench("#1,7;Sb1,0;Lb2,0;Sb2," + place + ";Lw3,10;Lw4,20;Lw5,30",
                "d9(i=0);d1(i=2);d1(i=3);d4(i>3)");
            middle.run(4);
            dueOps(middle, 3, 0, 0, 1, 1, 0, 1, 0);
        }
        LoadsAhead left = bench("#1,7;Sb1,0;Lb2,0;Sb2,1;#3,5;Sb3,1;Lb4,1",
            "d9(i=0);d3(i=4);d3(i=6&n=0);d16(i=6);d1(k=2)");
        due("a load that is off is left alone", left.run(4), 21);
        dueLast(left, 21, 2, 3, 3, 3, 0);
    }

    private static void sets() {
        sentence("SETS 0 to 15 (an OP has one or none; none at first)");
        LoadsAhead x = bench("Sb1,0;Lb2,0;#3,1", "d4(i=0);d1(i=1)");
        dueOps(x, 1, -2, -2, -2);
        due("ops with a set", x.count(8), 0);
        sentence("has neither one, both have the next number (0 first, then one more; behind 15 0 again)");
        for (int melts = 0; melts < 34; melts++) {
            due("next", x.count(9), melts % 16);
            x.run(4);
            dueOps(x, 1, melts % 16, melts % 16, -2);
            due("ops with a set", x.count(8), 2);
            x.forget();
        }
        sentence("has one one, the other has it, too");
        LoadsAhead store = bench("Sb1,0;Lb2,0;Lb3,0", "d4(i=0);d1(i=1);d9(i=2)");
        store.run(4);
        dueOps(store, 1, 0, 0, -2);
        law(store, "d4(i=0);d1(i>0)");
        store.run(4);
        dueOps(store, 1, 0, 0, 0);
        due("the next stays", store.count(9), 1);
        LoadsAhead load = bench("Sb1,0;Sb1,1;Lh2,0", "d4(i=0);d1(i>0)");
        load.run(4);
        dueOps(load, 1, 0, -2, 0);
        law(load, "d6(i=1);d1(i<9)");
        load.run(4);
        dueOps(load, 1, 0, 0, 0);
        due("the next stays", load.count(9), 1);
        lesser();
        oneSet();
        oldestFirst();
    }

    private static void lesser() {
        sentence("have both, both have the lesser (of one SET: as it is)");
        for (int store = 0; store <= 1; store++) {
            // load 2 learns from store 1, load 3 from store 0; then the other store goes to that load's byte
            LoadsAhead x = bench("Sb1,r3+9;Sb1,r5+14;Lb2,14;Lb4,9", store == 0 ? "d3(i=0);d5(i=1);d1(i>1)"
                : "d5(i=0);d3(i=1);d1(i>1)");
            x.run(4);
            dueOps(x, 1, store, 1 - store, 1 - store, store);
            x.register(3, 5);
            x.register(5, 1);
            law(x, "d6(i=0);d1(i<9)");
            x.run(4);
            due("wrong", x.lastRun(1), 1);
            dueOps(x, 1, 0, 1 - store, 0, store);
            due("the next stays", x.count(9), 2);
        }
    }

    /** Store 3 goes to another place when it is replayed, and finds a load that waited for it. */
    private static void oneSet() {
        LoadsAhead x = bench("#1,7;Sb1,0;Lb2,0;Sb3,r2+20;Lb4,27", "d3(i=2);d1(i<9)");
        x.run(4);
        dueOps(x, 1, -2, -2, -2, 0, 0);
        x.poke(0, 0);
        law(x, "d6(i=0);d1(i>0)");
        due("run", x.run(4), 11);
        dueLast(x, 11, 2, 3, 1, 1, 2);
        dueOps(x, 1, -2, 1, 1, 0, 0);
        due("next", x.count(9), 2);
    }

    private static void oldestFirst() {
        sentence("first of all of these, the oldest first, its SET and the store's MELT");
        LoadsAhead x = bench("Sb1,9;Sb1,14;Sb1,12;Lw2,11;Lw3,9", "d3(i=0);d5(i=1);d1(i>1)");
        due("run", x.run(4), 7);
        dueLast(x, 7, 2, 2, 2, 2, 0);
        dueOps(x, 1, 0, 1, -2, 1, 0);
        law(x, "d9(i=2);d1(i<9)");
        due("run", x.run(4), 11);
        dueLast(x, 11, 2, 2, 0, 0, 2);
        dueOps(x, 1, 0, 1, 0, 1, 0);
        due("next", x.count(9), 2);
    }

    private static void youngest() {
        sentence("a load waits till the youngest store ahead of it that has its SET is DONE; a store likewise");
        LoadsAhead x = bench("#1,7;Sb1,20;Lb2,20;Sb2,0;Sb3,1;#4,0;Lh5,r4+0", "d3(i=2);d6(i=3);d12(i=4);d1(i<9)");
        due("run", x.run(4), 14);
        dueLast(x, 14, 2, 2, 0, 0, 0);
        dueOps(x, 1, -2, -2, -2, 0, 0, -2, 0);
        law(x, "d9(i=0);d10(i=5);d1(i<9)");
        // store 4 is kept at 0 and 1; the load goes at 10, when 4 is done and 3 waits again
        due("run", x.run(4), 14);
        dueLast(x, 14, 2, 3, 3, 3, 2);
    }

    private static void triedAndRuns() {
        sentence("TRIED is a RUN (SETS, MEMORY, REGISTERS, X, all stay): what it would be.");
        LoadsAhead x = bench("#1,7;Sb1,0;Lb2,0;Sb2,1", "d6(i=0);d1+w/9(k=2)");
        x.run(3);
        x.forget();
        int[] before = seen(x);
        int[] told = new int[170];
        for (int what = 0; what < 164; what++) {
            told[what] = x.tried(4, what);
        }
        dueSame("tried", x, before);
        due("run", x.run(4), told[0]);
        for (int what = 0; what < 6; what++) {
            due("as tried", x.lastRun(what), told[what]);
        }
        for (int r = 0; r < 8; r++) {
            due("as tried", x.now(r), told[10 + r]);
        }
        for (int at = 100; at < 164; at++) {
            due("as tried", x.now(at), told[at]);
        }
        sentence("RUNS (0 at first): how many ended (9999 at most).");
        LoadsAhead often = bench("#1,1", "d3(r=98);d5(r=99);d7(r=0)");
        due("at first", often.count(0), 0);
        for (int sofar = 0; sofar <= 10002; sofar++) {
            int r = Math.min(9999, sofar) % 100;
            due("run", often.run(1), r == 98 ? 4 : r == 99 ? 6 : r == 0 ? 8 : 2);
            due("runs", often.count(0), Math.min(9999, sofar + 1));
        }
        due("keep", often.keep(), 9999);
    }

    public static void main(String[] args) {
        wide();
        sources();
        stages();
        cycles();
        done();
        fromMemory();
        draws();
        kept();
        retired();
        undone();
        looksBack();
        replayed();
        sets();
        youngest();
        triedAndRuns();
        end();
    }
}
