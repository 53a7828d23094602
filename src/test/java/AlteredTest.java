import java.io.IOException;
import java.net.URL;
import java.net.URLClassLoader;
import java.nio.charset.StandardCharsets;
import java.nio.file.Files;
import java.nio.file.Path;
import java.util.Comparator;
import java.util.List;
import java.util.stream.Stream;

/**
 * By the document's rules every run ends long before cycle 2000, and leaves what a plain run leaves. So that
 * what it says of others is tested all the same, these tests meet copies of the class that break a rule:
 * one in which an op may take longer, one in which stores don't look back.
 */
public final class AlteredTest {
    private static final Path SOURCE = Path.of("src/main/java/LoadsAhead.java");

    private static void compileWith(Path directory, String rule, String other) throws Exception {
        String text = Files.readString(SOURCE, StandardCharsets.UTF_8);
        if (text.indexOf(rule) < 0 || text.indexOf(rule) != text.lastIndexOf(rule)) {
            throw new IllegalStateException("not there once: " + rule);
        }
        Path copy = directory.resolve("LoadsAhead.java");
        Files.writeString(copy, text.replace(rule, other), StandardCharsets.UTF_8);
        Process javac = new ProcessBuilder("javac", "-d", directory.toString(), copy.toString()).inheritIO().start();
        if (javac.waitFor() != 0) {
            throw new IllegalStateException("the copy does not compile");
        }
    }

    private static void delete(Path directory) throws IOException {
        try (Stream<Path> all = Files.walk(directory)) {
            List<Path> deepestFirst = all.sorted(Comparator.reverseOrder()).toList();
            for (Path one : deepestFirst) {
                Files.delete(one);
            }
        }
    }

    /** How many answers of a copy are not as due. */
    private static int wrongWith(String rule, String other, String runs) throws Exception {
        Path directory = Files.createTempDirectory("altered");
        try {
            compileWith(directory, rule, other);
            URL tests = AlteredTest.class.getProtectionDomain().getCodeSource().getLocation();
            URL[] copyFirst = {directory.toUri().toURL(), tests};
            try (URLClassLoader loader = new URLClassLoader(copyFirst, ClassLoader.getPlatformClassLoader())) {
                return (Integer) loader.loadClass(runs).getMethod("test").invoke(null);
            }
        } finally {
            delete(directory);
        }
    }

    public static void main(String[] args) throws Exception {
        int wrong = wrongWith("LONGEST = 20;", "LONGEST = 99999;", "UnendedRuns")
            + wrongWith("                    lookBack(op);\n", "", "UnlikeRuns");
        System.out.println(wrong == 0 ? "altered copies answer as due" : wrong + " answers are not as due");
        if (wrong != 0) {
            System.exit(1);
        }
    }
}
