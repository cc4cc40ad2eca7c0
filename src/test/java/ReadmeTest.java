import java.io.IOException;
import java.lang.reflect.Method;
import java.lang.reflect.Modifier;
import java.net.URL;
import java.net.URLClassLoader;
import java.nio.file.Files;
import java.nio.file.Path;
import java.util.Arrays;
import java.util.NoSuchElementException;
import java.util.regex.Matcher;
import java.util.regex.Pattern;
import javax.tools.ToolProvider;

/** README.md against the class: its lines of Java answer what it says, its tables have all calls. */
public final class ReadmeTest {
    private static final Pattern JAVA = Pattern.compile("```java\n(.*?)```", Pattern.DOTALL);
    private static final Pattern ANSWER = Pattern.compile("(x\\.\\w+\\(.*\\));\\s*// (-?\\d+)\\b.*");
    private static final Pattern ROW = Pattern.compile("\\| `(\\w+)\\((.*?)\\)` \\|.*\\| (.*?)\\|");

    public static void main(String[] args) throws IOException, ReflectiveOperationException {
        String page = Files.readString(Path.of("README.md"));
        tables(page);
        lines(page);
        Check.end("ReadmeTest");
    }

    private static void tables(String page) {
        for (Method m : HerbWaters.class.getDeclaredMethods()) {
            if (!Modifier.isPublic(m.getModifiers())) {
                continue;
            }
            int rows = 0;
            Matcher row = ROW.matcher(page);
            while (row.find()) {
                if (row.group(1).equals(m.getName())) {
                    rows++;
                    row(m, row.group(2), row.group(3));
                }
            }
            Check.due("rows of " + m.getName(), rows, 1);
        }
    }

    private static void row(Method m, String parameters, String refuses) {
        int many = parameters.isEmpty() ? 0 : parameters.split(", ").length;
        Check.due("parameters of " + m.getName(), many, m.getParameterCount());
        Check.due(m.getName() + " refuses villages",
                refuses.matches("N\\b.*") == isThrown(m, NoSuchElementException.class));
        Check.due(m.getName() + " refuses numbers",
                refuses.matches("(.*, )?I: .*") == isThrown(m, IllegalArgumentException.class));
    }

    private static boolean isThrown(Method m, Class<?> kind) {
        return Arrays.asList(m.getExceptionTypes()).contains(kind);
    }

    /** The first lines of Java are a method, the second ones calls with their answers. */
    private static void lines(String page) throws IOException, ReflectiveOperationException {
        Matcher java = JAVA.matcher(page);
        StringBuilder source = new StringBuilder("public final class ReadmeLines {\n");
        Check.due("a method", java.find());
        source.append(java.group(1)).append("public static void run() {\n");
        Check.due("calls", java.find());
        int answers = 0;
        for (String line : java.group(1).split("\n")) {
            Matcher answer = ANSWER.matcher(line);
            boolean told = answer.matches();
            Check.due("an answer: " + line, told || !line.startsWith("x."));
            answers += told ? 1 : 0;
            source.append(told ? "ReadmeTest.due(" + answer.group(1) + ", " + answer.group(2) + ");" : line);
            source.append('\n');
        }
        Check.due("answers", answers > 0);
        Check.due("no other lines of Java", !java.find());
        run(source.append("}\n}\n").toString());
    }

    /** What the page's lines call. */
    public static void due(int got, int want) {
        Check.due("a line of README.md", got, want);
    }

    private static void run(String source) throws IOException, ReflectiveOperationException {
        Path folder = Files.createTempDirectory("readme");
        Path file = Files.writeString(folder.resolve("ReadmeLines.java"), source);
        String classes = System.getProperty("java.class.path");
        int failed = ToolProvider.getSystemJavaCompiler().run(null, null, null,
                "-cp", classes, "-d", folder.toString(), file.toString());
        Check.due("README.md compiles", failed, 0);
        try (URLClassLoader loader = new URLClassLoader(new URL[] {folder.toUri().toURL()})) {
            loader.loadClass("ReadmeLines").getMethod("run").invoke(null);
        }
        Files.deleteIfExists(folder.resolve("ReadmeLines.class"));
        Files.delete(file);
        Files.delete(folder);
    }
}
