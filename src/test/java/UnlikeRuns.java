/** What unlike() counts, on a copy of the class in which stores don't look back. */
public final class UnlikeRuns extends Bench {
    private static void dueUnlike(String program, int registers, int bytes) {
        LoadsAhead x = bench(program, "d20(i=0);d1(i>0)");
        x.register(1, 0x07070707);
        int[] before = seen(x);
        for (int wide = 1; wide <= 4; wide++) {
            due("unlike(" + wide + ") of " + program, x.unlike(wide), registers + bytes);
        }
        dueSame("unlike", x, before);
        int[] plain = new int[164];
        for (int what = 0; what < 164; what++) {
            plain[what] = x.plain(what);
        }
        x.run(4);
        int differ = 0;
        for (int what = 0; what < 164; what++) {
            differ += x.now(what) == plain[what] ? 0 : what < 8 ? 100 : 1;
        }
        due("registers and bytes that differ", differ, 100 * registers + bytes);
    }

    /** How many answers were not as due. */
    public static int test() {
        sentence("UNLIKE: a RUN, so WIDE, and PLAIN, both from now: how many REGISTERS and bytes differ.");
        dueUnlike("Sb1,0;Lb2,1", 0, 0);
        dueUnlike("Sb1,0;Lb2,0", 1, 0);
        dueUnlike("Sb1,0;Lb0,0;Lb7,0", 2, 0);
        dueUnlike("Sb1,0;Lb2,0;Sb2,1", 1, 1);
        dueUnlike("Sb1,0;Lb2,0;Sb2,1;Sb2,63;#2,5", 0, 2);
        dueUnlike("Sw1,62;Lw2,62;Sw2,10;Sb2,0;+3,2,2;>4,3,5", 3, 5);
        dueUnlike("Sb1,0;Lb0,0;Lb1,0;Lb2,0;Lb3,0;Lb4,0;Lb5,0;Lb6,0;Lb7,0", 8, 0);
        return wrong();
    }
}
