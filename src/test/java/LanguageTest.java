import java.lang.reflect.Constructor;
import java.lang.reflect.Field;
import java.lang.reflect.Method;
import java.lang.reflect.Modifier;
import java.nio.charset.StandardCharsets;
import java.nio.file.Files;
import java.nio.file.Path;
import java.util.ArrayList;
import java.util.Arrays;
import java.util.List;
import java.util.Set;
import java.util.TreeSet;
import java.util.regex.Matcher;
import java.util.regex.Pattern;

/** What of LANGUAGE.md can be seen from outside and from the text. */
public final class LanguageTest {
    private static final List<String> FACE = List.of(
        "boolean register(int,int)", "boolean poke(int,int)", "int feed(int,int,int,int,int)", "int law(int)",
        "int program(int)", "int run(int)", "int tried(int,int)", "int lastRun(int)", "int opIs(int,int)",
        "int source(int,int)", "int now(int)", "int plain(int)", "int unlike(int)", "int fastest(int)",
        "int cautious(int,int)", "int worst(int)", "int deep()", "int mix()", "int watch(int,int)",
        "int watched(int,int,int)", "int forget()", "boolean seed(int)", "int keep()", "boolean undo()",
        "int check(int)", "int count(int)");
    private static final List<String> WORDS = List.of("throw", "throws", "try", "catch", "synchronized", "assert",
        "volatile", "native", "transient", "protected", "Thread", "Random", "Runtime", "Object", "Class", "var");
    private static int wrong;

    private static void due(String what, boolean holds) {
        if (!holds) {
            wrong++;
            System.out.println("not kept: " + what);
        }
    }

    private static void faceOf(Class<?> face) {
        Set<String> shown = new TreeSet<>();
        Set<String> names = new TreeSet<>();
        for (Method method : face.getDeclaredMethods()) {
            if (Modifier.isPublic(method.getModifiers())) {
                String parameters = Arrays.toString(method.getParameterTypes()).replaceAll("[\\[\\] ]", "");
                shown.add(method.getReturnType() + " " + method.getName() + "(" + parameters + ")");
                names.add(method.getName());
            } else {
                due(method + " is private", Modifier.isPrivate(method.getModifiers()));
            }
        }
        due("the methods of the face", shown.equals(new TreeSet<>(FACE)));
        Constructor<?>[] constructors = face.getDeclaredConstructors();
        due("the constructor", constructors.length == 1 && constructors[0].getParameterCount() == 0
            && Modifier.isPublic(constructors[0].getModifiers()));
        for (Field field : face.getDeclaredFields()) {
            boolean constant = field.getName().equals("NONE") && Modifier.isPublic(field.getModifiers());
            due(field + " is private", constant || Modifier.isPrivate(field.getModifiers()));
        }
        due("final", Modifier.isFinal(face.getModifiers()));
        privateNames(face, names);
        for (Class<?> inner : face.getDeclaredClasses()) {
            due(inner + " is static", Modifier.isStatic(inner.getModifiers()) && !Modifier.isPublic(inner.getModifiers()));
            privateNames(inner, names);
            sizeOf(inner);
        }
        sizeOf(face);
        due("some twelve classes", face.getDeclaredClasses().length < 12);
    }

    private static void privateNames(Class<?> type, Set<String> names) {
        for (Method method : type.getDeclaredMethods()) {
            due(method + " bears a name of the face",
                Modifier.isPublic(method.getModifiers()) || !names.contains(method.getName()));
        }
    }

    private static void sizeOf(Class<?> type) {
        int fields = 0;
        for (Field field : type.getDeclaredFields()) {
            boolean fixed = Modifier.isStatic(field.getModifiers());
            due(field + " is final", !fixed || Modifier.isFinal(field.getModifiers()));
            fields += fixed ? 0 : 1;
        }
        due(type + " has some twenty fields", fields <= 20);
        for (Method method : type.getDeclaredMethods()) {
            due(method + " takes at most seven", method.getParameterCount() <= 7);
        }
    }

    private static void textOf(String text) {
        String bare = text.replaceAll("(?s)/\\*.*?\\*/", "").replaceAll("//[^\n]*", "")
            .replaceAll("'[^'\n]'", "' '").replaceAll("\"[^\"\n]*\"", "\"\"");
        for (String word : WORDS) {
            due("no " + word, !Pattern.compile("\\b" + word + "\\b").matcher(bare).find());
        }
        for (String sign : List.of("->", "::", "Exact", "package ", "@")) {
            due("no " + sign, !bare.contains(sign));
        }
        List<String> imports = new ArrayList<>();
        Matcher matcher = Pattern.compile("(?m)^import .*$").matcher(bare);
        while (matcher.find()) {
            imports.add(matcher.group());
        }
        due("imports " + imports, imports.equals(List.of("import java.util.Arrays;")));
        due("plain signs alone", text.chars().allMatch(sign -> sign == '\n' || (sign >= 32 && sign < 127)));
        lengthsOf(bare.split("\n"));
    }

    private static void lengthsOf(String[] lines) {
        int begun = -1;
        String indent = "";
        for (int i = 0; i < lines.length; i++) {
            Matcher head = Pattern.compile("^( {4}| {8})[A-Za-z].*\\) \\{$").matcher(lines[i]);
            if (begun < 0 && head.matches()) {
                begun = i;
                indent = head.group(1);
            } else if (begun >= 0 && lines[i].equals(indent + "}")) {
                due(lines[begun].trim() + " has some sixty lines", i - begun < 60);
                begun = -1;
            }
        }
    }

    public static void main(String[] args) throws Exception {
        faceOf(LoadsAhead.class);
        textOf(Files.readString(Path.of("src/main/java/LoadsAhead.java"), StandardCharsets.ISO_8859_1));
        System.out.println(wrong == 0 ? "the language is kept" : wrong + " rules are not kept");
        if (wrong != 0) {
            System.exit(1);
        }
    }
}
