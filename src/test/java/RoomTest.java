import java.lang.management.ManagementFactory;

/** All calls of a run live in one room: an object is small, and no call makes anything more. */
public final class RoomTest {
    private static final int OBJECT_BYTES = 20_000;
    private static final int CALLS_BYTES = 2_000;

    private static long made() {
        com.sun.management.ThreadMXBean threads = (com.sun.management.ThreadMXBean) ManagementFactory.getThreadMXBean();
        return threads.getCurrentThreadAllocatedBytes();
    }

    private static void feed(LoadsAhead x, String text) {
        for (int from = 0; from < text.length(); from += 20) {
            x.feed(at(text, from), at(text, from + 4), at(text, from + 8), at(text, from + 12), at(text, from + 16));
        }
    }

    private static int at(String text, int from) {
        int four = 0;
        for (int i = from; i < from + 4; i++) {
            four = four << 8 | (i < text.length() ? text.charAt(i) : 'a');
        }
        return four;
    }

    private static int calls(LoadsAhead x) {
        String program = "#1,5;Sb1,0;Lb2,0;+3,2,2;Sw3,r2+1;Lh4,6;Lw5,r4+0;Sh5,2";
        String law = "d9(i=0&!c>50);d[w+1]%7(i>1|s<3);x(n=0&[i+c]%3=0)";
        int sum = 0;
        for (int i = 0; i < 15; i++) {
            feed(x, program);
            sum += x.program(program.length());
            feed(x, law);
            sum += x.law(law.length());
            sum += x.run(1 + i % 4) + x.tried(1 + i % 4, 5) + x.unlike(2) + x.fastest(1) + x.cautious(3, 0);
            sum += x.plain(3) + x.mix() + x.deep() + x.worst(1) + x.lastRun(1) + x.watch(0, 2) + x.watched(0, 0, 4);
            sum += x.opIs(2, 10) + x.source(3, 2) + x.keep() + x.forget() + x.count(11) + (x.undo() ? 1 : 0);
            x.feed(0, 0, 0, 0, 0);
            sum += x.check(20) + x.now(5) + (x.seed(i) ? 1 : 0) + (x.poke(1, 1) ? 1 : 0) + (x.register(2, 2) ? 1 : 0);
        }
        return sum;
    }

    public static void main(String[] args) {
        int sum = calls(new LoadsAhead());
        made();
        long begun = made();
        LoadsAhead x = new LoadsAhead();
        long object = made() - begun;
        long before = made();
        sum += calls(x);
        long calls = made() - before;
        boolean fits = object <= OBJECT_BYTES && calls <= CALLS_BYTES && sum != 0;
        System.out.println("an object takes " + object + " bytes, its calls " + calls + (fits ? "" : ": too much"));
        if (!fits) {
            System.exit(1);
        }
    }
}
