import java.io.IOException;
import java.io.StringWriter;
import java.lang.reflect.Method;
import java.lang.reflect.Modifier;
import java.net.URL;
import java.net.URLClassLoader;
import java.nio.file.Files;
import java.nio.file.Path;
import java.util.ArrayList;
import java.util.List;
import java.util.regex.Matcher;
import java.util.regex.Pattern;
import javax.tools.JavaCompiler;
import javax.tools.ToolProvider;

/**
 * What README.md shows of calls and answers is so: its Java code is compiled as one program, in which each call with
 * an answer behind it is checked, and that program is run.
 */
public final class ReadmeTest {
    private static final Path README = Path.of("README.md");
    private static final Path OUT = Path.of("build", "readme");
    private static final String NAME = "ReadmeLines";
    /** A call, perhaps kept in a new variable, with its answer or its exception behind it. */
    private static final Pattern SHOWN = Pattern.compile(
            "\\s*(int (\\w+) = )?(house\\.\\w+\\(.*\\));\\s*// (?:throws (\\w+)|(-?\\d+(?:\\.\\d+)?))(?::.*)?");

    public static void main(String[] args) throws IOException, ReflectiveOperationException {
        List<String> lines = javaLinesOf(Files.readAllLines(README));
        eachCallIsShown(lines);
        eachCallShowsItsAnswer(lines);
        shownAnswersAreSo(lines);
        Checks.finish();
    }

    private static List<String> javaLinesOf(List<String> text) {
        List<String> lines = new ArrayList<>();
        boolean isJava = false;
        for (String line : text) {
            if (line.startsWith("```")) {
                isJava = line.equals("```java");
            } else if (isJava) {
                lines.add(line);
            }
        }
        return lines;
    }

    private static void eachCallIsShown(List<String> lines) {
        for (Method method : Waxrow.class.getDeclaredMethods()) {
            if (Modifier.isPublic(method.getModifiers())) {
                String call = "house." + method.getName() + "(";
                Checks.holds("README.md shows " + call, lines.stream().anyMatch(line -> line.contains(call)));
            }
        }
    }

    private static void eachCallShowsItsAnswer(List<String> lines) {
        for (String line : lines) {
            if (line.contains("house.")) {
                Checks.holds("an answer stands behind " + line.strip(), SHOWN.matcher(line).matches());
            }
        }
    }

    private static void shownAnswersAreSo(List<String> lines) throws IOException, ReflectiveOperationException {
        Files.createDirectories(OUT);
        Path file = OUT.resolve(NAME + ".java");
        Files.write(file, programOf(lines));
        JavaCompiler compiler = ToolProvider.getSystemJavaCompiler();
        Checks.holds("this java has its javac", compiler != null);
        if (compiler == null) {
            return;
        }
        StringWriter told = new StringWriter();
        List<String> options = List.of("-d", OUT.toString(), "-cp", System.getProperty("java.class.path"));
        boolean isCompiled = compiler.getTask(told, null, null, options, null,
                compiler.getStandardFileManager(null, null, null).getJavaFileObjects(file)).call();
        Checks.due("README.md compiles", "", told.toString());
        if (!isCompiled) {
            return;
        }
        try (URLClassLoader loader = new URLClassLoader(new URL[] {OUT.toUri().toURL()})) {
            Method run = loader.loadClass(NAME).getMethod("run");
            Checks.due("answers that README.md shows", "", (String) run.invoke(null));
        }
    }

    private static List<String> programOf(List<String> lines) {
        List<String> program = new ArrayList<>(List.of(
                "public final class " + NAME + " {",
                "private static String wrong = \"\";",
                "private static void due(String line, String want, Object got) {",
                "if (!want.equals(String.valueOf(got))) { wrong += line + \" answered \" + got + \"\\n\"; }",
                "}",
                "public static String run() {"));
        for (String line : lines) {
            Matcher shown = SHOWN.matcher(line);
            program.add(shown.matches() ? checkOf(shown) : line);
        }
        program.addAll(List.of("return wrong;", "}", "}"));
        return program;
    }

    private static String checkOf(Matcher shown) {
        String name = shown.group(2);
        String call = shown.group(3);
        String thrown = shown.group(4);
        if (thrown != null) {
            String due = "due(\"" + call + "\", \"" + thrown + "\", ";
            return "try { " + due + call + "); } catch (RuntimeException e) { "
                    + due + "e.getClass().getSimpleName()); }";
        }
        String due = "due(\"" + call + "\", \"" + shown.group(5) + "\", ";
        return name == null ? due + call + ");" : "int " + name + " = " + call + "; " + due + name + ");";
    }
}
