import java.io.IOException;
import java.nio.charset.StandardCharsets;
import java.nio.file.Files;
import java.nio.file.Path;
import java.util.Arrays;
import java.util.List;
import java.util.regex.Matcher;
import java.util.regex.Pattern;
import java.util.stream.Stream;

/**
 * The document once more from its first line: what no other test is headed by, reckoned by hand; and that each
 * sentence of it, from the terms to the last promise, heads a test.
 */
public final class DocumentTest extends Bench {
    private static final Path TESTS = Path.of("src/test/java");
    private static final int WORDS_BETWEEN = 4;

    private static void manyCalls() {
        sentence("An object is used for at most 512 calls after it has been made");
        LoadsAhead x = bench("#1,1", "dr%7+1(i=i)");
        int before = 4;
        for (int runs = 0; runs < 512 - before; runs++) {
            due("run " + runs, x.run(1 + runs % 4), runs % 100 % 7 + 2);
        }
    }

    /**
     * Store 0 is done at 9; load 1 took memory's byte at 1, so that store 2 went to 10, at 2, and load 3, which had
     * taken memory's byte, took that of store 2. At 9 the three are replayed: store 2 goes to 14, at 11, where load 4
     * had been, and load 3 has memory's byte again.
     */
    private static void storeElsewhere() {
        LoadsAhead x = bench("Sb7,0;Lb1,0;Sb6,r1+10;Lb2,10;Lb3,14", "d9(i=0);d1(i>0)");
        x.register(7, 4);
        x.register(6, 5);
        x.poke(10, 1);
        x.poke(14, 2);
        sentence("A store has its PLACE and bytes; then it LOOKS BACK. A load has its PLACE and takes each byte");
        due("run", x.run(4), 13);
        dueLast(x, 13, 3, 5, 1, 1, 2);
        due("what was there before", x.now(110), 1);
        due("where it is now", x.now(114), 5);
        sentence("Of an OP: at which CYCLE it was DONE last; how often it was REPLAYED; its value (of a store what it"
            + " stored, of b, h the lowest bytes alone, without a sign); where its PLACE begins; of a load's byte from"
            + " which OP it was taken.");
        dueOps(x, 2, 9, 10, 11, 12, 12);
        dueOps(x, 3, 0, 1, 1, 2, 1);
        dueOps(x, 4, 4, 4, 5, 1, 5);
        dueOps(x, 5, 0, 0, 14, 10, 14);
        dueOps(x, 10, -4, 0, -4, -2, 2);
        dueOps(x, 1, 1, 1, 0, 0, 0);
        due("the next set", x.count(9), 2);
        due("worst", x.worst(0), 3);
        due("how often", x.worst(1), 2);
    }

    private static void replayedOnce() {
        sentence("then each, the oldest first, is REPLAYED (one that is WAITING by then is WRONG all the same, but not"
            + " REPLAYED once more)");
        LoadsAhead x = bench("Sw7,0;Lb1,0;Lb2,r1+1", "d9(i=0);d1(i>0)");
        x.register(7, 0x030201);
        due("run", x.run(4), 12);
        dueLast(x, 12, 2, 2, 0, 0, 0);
        dueOps(x, 3, 0, 1, 1);
        dueOps(x, 4, 0x030201, 1, 3);
        dueOps(x, 5, 0, 0, 2);
    }

    private static void waited() {
        sentence("CYCLES waited: how often, CYCLE by CYCLE, an OP whose SOURCES were DONE was kept from going OFF by its"
            + " SET.");
        LoadsAhead x = bench("#1,5;Sb1,0;Lb2,0;Lb3,0", "d4(i=0);d1(k=2)");
        due("run", x.run(4), 7);
        dueLast(x, 7, 2, 2, 0, 0, 0);
        due("tried(1, 0)", x.tried(1, 0), 8);
        due("tried(1, 5)", x.tried(1, 5), 10);
        due("run", x.run(4), 7);
        dueLast(x, 7, 0, 0, 0, 0, 10);
    }

    private static void plainNow() {
        sentence("PLAIN: REGISTERS, MEMORY as PLAIN would leave them now.");
        LoadsAhead x = bench("+1,1,2;Sb1,r3+0;Lb4,r3+0", "");
        x.register(2, 3);
        due("r1", x.plain(1), 3);
        x.register(1, 4);
        due("r1 by another r1", x.plain(1), 7);
        due("r4", x.plain(4), 7);
        due("byte 0", x.plain(100), 7);
        x.register(3, -1);
        x.poke(0, 9);
        due("byte 63", x.plain(163), 7);
        due("byte 0 as it was poked", x.plain(100), 9);
        due("nothing has changed", x.now(163), 0);
        due("run", x.run(4), 3);
        due("once more from there", x.plain(1), 10);
        due("once more from there", x.plain(163), 10);
    }

    /** Load 2 has the set of store 1, but waits for store 0, too; store 1 waits for none. */
    private static void cautiousNow() {
        LoadsAhead x = bench("Sb5,0;Sb6,1;Lb2,1", "d3(i=1);d1(i=2);d9(i=0&r>0)");
        due("run", x.run(4), 5);
        dueLast(x, 5, 1, 1, 0, 0, 0);
        sentence("CAUTIOUS: a RUN, so WIDE, from now, in which each load waits till all stores ahead of it are DONE");
        due("by its set", x.tried(4, 5), 3);
        due("by its set", x.tried(4, 0), 11);
        due("cautious cycles", x.cautious(4, 0), 11);
        due("cautious waited", x.cautious(4, 5), 9);
        due("cautious wrong", x.cautious(4, 1), 0);
        due("cautious ahead", x.cautious(4, 3), 1);
        due("cautious undone", x.cautious(4, 4), 1);
    }

    private static void noSuchTried() {
        sentence("NONE: no such ones, no PROGRAM.");
        int[] wides = {Integer.MIN_VALUE, -1, 0, 5, Integer.MAX_VALUE};
        int[] whats = {Integer.MIN_VALUE, -1, 6, 9, 18, 99, 164, Integer.MAX_VALUE};
        LoadsAhead none = new LoadsAhead();
        LoadsAhead x = bench("#1,1", "");
        for (int wide : wides) {
            due("tried(" + wide + ", 0)", x.tried(wide, 0), -1);
            due("cautious(" + wide + ", 0)", x.cautious(wide, 0), -1);
        }
        for (int what : whats) {
            due("tried(1, " + what + ")", x.tried(1, what), -1);
            due("cautious(1, " + what + ")", x.cautious(1, what), -1);
        }
        for (int what = 0; what < 164; what++) {
            due("tried with no program", none.tried(1, what), -1);
            due("cautious with no program", none.cautious(1, what), -1);
        }
    }

    private static String oneLine(Path file) throws IOException {
        return Files.readString(file, StandardCharsets.UTF_8).replaceAll("\\s+", " ");
    }

    /** The document from its terms on; what heads a test is blanked out. */
    private static void everySentence() throws IOException {
        String document = oneLine(Path.of("../shared/DOC.md"));
        int begins = document.indexOf("## Terms");
        int ends = document.indexOf("## Not promised");
        boolean[] heads = new boolean[document.length()];
        try (Stream<Path> files = Files.list(TESTS)) {
            List<Path> all = files.filter(file -> file.toString().endsWith(".java")).toList();
            for (Path file : all) {
                markHeads(oneLine(file), document, heads);
            }
        }
        StringBuilder left = new StringBuilder();
        for (int i = begins; i < ends; i++) {
            left.append(heads[i] ? '\n' : document.charAt(i));
        }
        String bare = left.toString().replaceAll("## Promise [0-9]+: [A-Za-z ]+`[^`\n]*`:|```text|## Terms", "");
        for (String between : bare.split("\n+")) {
            int words = between.replaceAll("[^A-Za-z]+", " ").trim().split(" ").length;
            due("words that head no test:" + between, words <= WORDS_BETWEEN, true);
        }
    }

    private static void markHeads(String test, String document, boolean[] heads) {
        Matcher call = Pattern.compile("sentence\\((\"[^\"]*\"(?: \\+ \"[^\"]*\")*)\\);").matcher(test);
        while (call.find()) {
            String said = call.group(1).replaceAll("\" \\+ \"", "").replace("\"", "");
            for (int at = document.indexOf(said); at >= 0; at = document.indexOf(said, at + 1)) {
                Arrays.fill(heads, at, at + said.length(), true);
            }
        }
    }

    public static void main(String[] args) throws IOException {
        manyCalls();
        storeElsewhere();
        replayedOnce();
        waited();
        plainNow();
        cautiousNow();
        noSuchTried();
        everySentence();
        end();
    }
}
