import java.io.IOException;
import java.net.URL;
import java.net.URLClassLoader;
import java.nio.charset.StandardCharsets;
import java.nio.file.Files;
import java.nio.file.Path;
import java.util.Comparator;
import java.util.List;
import java.util.stream.Stream;
import javax.tools.JavaCompiler;
import javax.tools.ToolProvider;

/**
 * By the document's bounds every run ends long before cycle 2000. So that what it says of runs that don't
 * end is tested all the same, UnendedRuns meets a copy of the class in which an op may take longer.
 */
public final class UnendedTest {
    private static final Path SOURCE = Path.of("src/main/java/LoadsAhead.java");
    private static final String BOUND = "LONGEST = 20;";

    private static void compileLonger(Path directory) throws IOException {
        String text = Files.readString(SOURCE, StandardCharsets.UTF_8);
        if (text.indexOf(BOUND) < 0 || text.indexOf(BOUND) != text.lastIndexOf(BOUND)) {
            throw new IllegalStateException("the bound of delays is not found");
        }
        Path longer = directory.resolve("LoadsAhead.java");
        Files.writeString(longer, text.replace(BOUND, "LONGEST = 99999;"), StandardCharsets.UTF_8);
        JavaCompiler compiler = ToolProvider.getSystemJavaCompiler();
        if (compiler.run(null, null, null, "-d", directory.toString(), longer.toString()) != 0) {
            throw new IllegalStateException("the copy does not compile");
        }
    }

    private static void delete(Path directory) throws IOException {
        try (Stream<Path> all = Files.walk(directory)) {
            List<Path> deepestFirst = all.sorted(Comparator.reverseOrder()).toList();
            for (Path one : deepestFirst) {
                Files.delete(one);
            }
        }
    }

    public static void main(String[] args) throws Exception {
        Path directory = Files.createTempDirectory("unended");
        int wrong;
        try {
            compileLonger(directory);
            URL tests = UnendedTest.class.getProtectionDomain().getCodeSource().getLocation();
            URL[] copyFirst = {directory.toUri().toURL(), tests};
            try (URLClassLoader loader = new URLClassLoader(copyFirst, ClassLoader.getPlatformClassLoader())) {
                Class<?> runs = loader.loadClass("UnendedRuns");
                wrong = (Integer) runs.getMethod("test").invoke(null);
            }
        } finally {
            delete(directory);
        }
        System.out.println(wrong == 0 ? "runs that don't end are as due" : wrong + " answers are not as due");
        if (wrong != 0) {
            System.exit(1);
        }
    }
}
