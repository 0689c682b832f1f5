import java.io.IOException;
import java.lang.reflect.Field;
import java.lang.reflect.Method;
import java.lang.reflect.Modifier;
import java.nio.file.Files;
import java.nio.file.Path;
import java.util.ArrayList;
import java.util.List;
import java.util.regex.Matcher;
import java.util.regex.Pattern;

/**
 * The text of the program: the document's face to the letter, with what the interface says ahead of its calls, and
 * those rules of LANGUAGE.md that can be seen from the text or from the compiled classes.
 */
public final class SourceTest {
    private static final Path SOURCE = Path.of("src", "main", "java", "Waxrow.java");
    private static final String FACE = """
            public Waxrow()
            ---- persons
            public int person(int here, int there, int beyond) throws IllegalArgumentException, IllegalStateException
            public int trend(int person, int land, int trend) throws IndexOutOfBoundsException, IllegalArgumentException
            public int news(int person, int by) throws IndexOutOfBoundsException, IllegalArgumentException
            public int consent(int person, boolean is) throws IndexOutOfBoundsException
            public int measure(int person, int measure, int value, int error) throws IndexOutOfBoundsException, \
            IllegalArgumentException
            public int pay(int person) throws IndexOutOfBoundsException
            ---- figures
            public int figure(int person) throws IndexOutOfBoundsException, IllegalStateException
            public int work(int figure, int hands) throws IndexOutOfBoundsException, IllegalArgumentException, \
            IllegalStateException
            public int swap(int one, int other) throws IndexOutOfBoundsException, IllegalArgumentException, \
            IllegalStateException
            public int mend(int figure) throws IndexOutOfBoundsException, IllegalStateException
            public int melt(int figure) throws IndexOutOfBoundsException, IllegalStateException
            public int tour(int figure, int land, int days) throws IndexOutOfBoundsException, \
            IllegalArgumentException, IllegalStateException
            ---- rooms and days
            public int room(int lamps, int spots) throws IllegalArgumentException, IllegalStateException
            public int lamps(int room, int lamps) throws IndexOutOfBoundsException, IllegalArgumentException
            public int show(int figure, int room) throws IndexOutOfBoundsException, IllegalStateException
            public int take(int figure) throws IndexOutOfBoundsException, IllegalStateException
            public int clean(int room) throws IndexOutOfBoundsException
            public int price(int price) throws IllegalArgumentException
            public int pass(int days, int visitors, int warmth) throws IllegalArgumentException
            ---- what one asks
            public int ofPerson(int person, int what) throws IndexOutOfBoundsException, IllegalArgumentException
            public int known(int person, int measure, boolean isHigh) throws IndexOutOfBoundsException
            public int ofFigure(int figure, int what) throws IndexOutOfBoundsException, IllegalArgumentException
            public int ofRoom(int room, int what) throws IndexOutOfBoundsException, IllegalArgumentException
            public int many(int what) throws IllegalArgumentException
            public double meanLikeness()
            ---- what would be (nothing is changed; nothing else is done)
            public int wouldFame(int person, int land, int months) throws IndexOutOfBoundsException, \
            IllegalArgumentException
            public int readyIn(int figure) throws IndexOutOfBoundsException
            public int meltsIn(int figure, int visitors, int warmth) throws IndexOutOfBoundsException, \
            IllegalArgumentException
            public int bestNext()
            public long digest()
            """;
    private static final List<String> THROWN = List.of("IllegalStateException", "IllegalArgumentException",
            "IndexOutOfBoundsException");
    private static final List<String> LEFT_OUT = List.of("import", "package", "catch", "finally", "synchronized",
            "assert", "hashCode", "Random", "Thread", "Object");
    private static final List<String> OF_MATH = List.of("compare", "max", "min", "abs", "floorDiv", "floorMod");

    public static void main(String[] args) throws IOException {
        String text = Files.readString(SOURCE);
        faceStandsAsInTheDocument(text);
        String code = text.replaceAll("(?s)/\\*.*?\\*/", "").replaceAll("//[^\n]*", "");
        wordsThatTheLanguageLeavesOut(code);
        exceptionsAreThrownByRule(code);
        objectsAreMadeInConstructorsAlone(code);
        methodsAreShort(code);
        List<Class<?>> classes = classesOf(Waxrow.class);
        Checks.holds("twelve classes at most", classes.size() <= 12);
        for (Class<?> one : classes) {
            classKeepsTheRules(one);
        }
        Checks.finish();
    }

    private static void faceStandsAsInTheDocument(String text) {
        Pattern told = Pattern.compile("(?m)^    (?:// (---- [^\n]*)|(public [^{=]*?) \\{)");
        StringBuilder got = new StringBuilder();
        Matcher part = told.matcher(text);
        while (part.find()) {
            String heading = part.group(1);
            got.append(heading == null ? part.group(2).replaceAll("\\s+", " ") : heading).append('\n');
        }
        Checks.due("face", FACE, got.toString());
    }

    private static void wordsThatTheLanguageLeavesOut(String code) {
        for (String word : LEFT_OUT) {
            Checks.holds("no " + word, !Pattern.compile("\\b" + word + "\\b").matcher(code).find());
        }
        Checks.holds("no lambdas", !code.contains("->"));
        Checks.holds("no method references", !code.contains("::"));
        Checks.holds("no texts joined by +", !Pattern.compile("\"\\s*\\+|\\+\\s*\"").matcher(code).find());
        Matcher math = Pattern.compile("Math\\.(\\w+)").matcher(code);
        while (math.find()) {
            Checks.holds("Math." + math.group(1) + " is left", OF_MATH.contains(math.group(1)));
        }
    }

    private static void exceptionsAreThrownByRule(String code) {
        Matcher thrown = Pattern.compile("\\bthrow\\b([^;]*);").matcher(code);
        while (thrown.find()) {
            Matcher made = Pattern.compile(" new (\\w+)\\(\"[^\"]*\"\\)").matcher(thrown.group(1));
            Checks.holds("throw" + thrown.group(1), made.matches() && THROWN.contains(made.group(1)));
        }
    }

    /** So that no run of calls makes more than its houses and the exceptions that it asks for. */
    private static void objectsAreMadeInConstructorsAlone(String code) {
        String rest = code.replaceAll("(?m)^( +)(public )?[A-Z]\\w*\\([^)]*\\) \\{\n(?:\\1 +[^\n]*\n|\n)*\\1\\}", "");
        Matcher made = Pattern.compile("(throw )?\\bnew (\\w+)").matcher(rest);
        while (made.find()) {
            Checks.holds("new " + made.group(2) + " outside of constructors is thrown", made.group(1) != null);
        }
    }

    private static void methodsAreShort(String code) {
        Matcher body = Pattern.compile("(?m)^( {4}| {8})(?! |[^\n]*\\b(?:class|if|for|while|switch)\\b)[^\n]*\\{\n"
                + "((?:\\1 +[^\n]*\n|\n)*)\\1\\}").matcher(code);
        int methods = 0;
        while (body.find()) {
            methods++;
            long lines = body.group(2).lines().count();
            Checks.holds("sixty lines at most, not " + lines, lines <= 60);
        }
        Checks.holds("methods are found", methods > 31);
    }

    private static List<Class<?>> classesOf(Class<?> outer) {
        List<Class<?>> classes = new ArrayList<>(List.of(outer));
        for (Class<?> inner : outer.getDeclaredClasses()) {
            int modifiers = inner.getModifiers();
            Checks.holds(inner + " is static and not public",
                    Modifier.isStatic(modifiers) && !Modifier.isPublic(modifiers) && !Modifier.isProtected(modifiers));
            classes.addAll(classesOf(inner));
        }
        return classes;
    }

    private static void classKeepsTheRules(Class<?> one) {
        int fields = 0;
        for (Field field : one.getDeclaredFields()) {
            if (Modifier.isStatic(field.getModifiers())) {
                Checks.holds(field + " is final", Modifier.isFinal(field.getModifiers()));
            } else {
                fields++;
            }
        }
        Checks.holds("twenty fields at most of " + one, fields <= 20);
        for (Method method : one.getDeclaredMethods()) {
            Checks.holds("seven parameters at most of " + method, method.getParameterCount() <= 7);
        }
    }
}
