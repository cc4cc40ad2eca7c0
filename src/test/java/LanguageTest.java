import java.io.IOException;
import java.lang.reflect.Constructor;
import java.lang.reflect.Field;
import java.lang.reflect.Method;
import java.lang.reflect.Modifier;
import java.nio.file.Files;
import java.nio.file.Path;
import java.util.Arrays;
import java.util.List;
import java.util.Set;
import java.util.TreeSet;

/** Some rules of LANGUAGE.md that can be seen from outside. Runs in the project's folder. */
public final class LanguageTest {
    private static final String FACE = "ahead book contrary count days drought fault feast feed filters grade image led "
            + "loss minds opinion please put rest restore right round span status sums tap tasted thinks told town undo "
            + "view village when where whom";

    public static void main(String[] args) throws IOException {
        face();
        classes();
        source(Files.readAllLines(Path.of("src/main/java/HerbWaters.java")));
        Check.end("LanguageTest");
    }

    private static Set<String> names() {
        return new TreeSet<>(Arrays.asList(FACE.split(" ")));
    }

    private static void face() {
        Set<String> open = new TreeSet<>();
        for (Method m : HerbWaters.class.getDeclaredMethods()) {
            boolean hidden = Modifier.isPrivate(m.getModifiers()) || m.isSynthetic();
            if (!hidden) {
                open.add(m.getName());
                Check.due("public: " + m, Modifier.isPublic(m.getModifiers()));
            } else {
                Check.due("a private method bears the name of a public one: " + m, !names().contains(m.getName()));
            }
        }
        Check.due("the face", open.equals(names()));
        for (Field f : HerbWaters.class.getDeclaredFields()) {
            Check.due("field " + f, Modifier.isPrivate(f.getModifiers()) || f.getName().equals("NONE")
                    || f.isSynthetic());
        }
        for (Constructor<?> c : HerbWaters.class.getDeclaredConstructors()) {
            Check.due("constructor " + c, c.getParameterCount() == 0 && Modifier.isPublic(c.getModifiers()));
        }
    }

    private static void classes() {
        Class<?>[] inside = HerbWaters.class.getDeclaredClasses();
        Check.due("some twelve classes", inside.length <= 12);
        for (Class<?> c : inside) {
            Check.due("private and static: " + c, Modifier.isPrivate(c.getModifiers())
                    && Modifier.isStatic(c.getModifiers()));
            long fields = Arrays.stream(c.getDeclaredFields())
                    .filter(f -> !Modifier.isStatic(f.getModifiers())).count();
            Check.due("some twenty fields: " + c, fields <= 20);
            for (Method m : c.getDeclaredMethods()) {
                Check.due("a name of the face inside: " + m, !names().contains(m.getName()));
                Check.due("seven parameters: " + m, m.getParameterCount() <= 7);
            }
        }
    }

    private static void source(List<String> lines) {
        int begun = -1;
        for (int i = 0; i < lines.size(); i++) {
            String line = lines.get(i);
            String code = line.replaceAll("\"[^\"]*\"|'.'|//.*|/\\*\\*.*", "");
            Check.due("line " + (i + 1) + " is long", line.length() <= 120);
            for (String word : List.of("->", "::", "\\btry\\b", "\\bcatch\\b", "\\bfinally\\b", "\\bassert\\b",
                    "\\bsynchronized\\b", "\\bdouble\\b", "\\bfloat\\b", "Exact\\b", "\\binstanceof\\b")) {
                Check.due("line " + (i + 1) + " has " + word, !code.matches(".*" + word + ".*"));
            }
            if (code.startsWith("import")) {
                Check.due("line " + (i + 1) + " imports", code.equals("import java.util.Arrays;")
                        || code.equals("import java.util.NoSuchElementException;"));
            }
            boolean opens = line.matches("( {4}){1,2}[^ ].*\\) (throws .*)?\\{") && !line.contains(" class ");
            if (opens) {
                begun = i;
            }
            if (begun >= 0 && (line.equals("    }") || line.equals("        }"))) {
                Check.due("the method at line " + (begun + 1) + " is long", i - begun <= 60);
                begun = -1;
            }
        }
    }
}
