import java.lang.reflect.InvocationTargetException;
import java.lang.reflect.Method;
import java.util.Arrays;
import java.util.List;

/** Runs of scattered calls, with edges and wrong arguments among them, on Waxrow and on the model beside it. */
public final class ModelTest {
    private static final int CALLS = 512;

    /** The kind of each argument: a letter of KINDS. Calls that stand here more than once come more often. */
    private static final String[][] CALLS_AND_KINDS = {
        {"person", "www"}, {"trend", "plt"}, {"trend", "plt"}, {"news", "pb"}, {"consent", "px"}, {"consent", "px"},
        {"measure", "pmve"}, {"measure", "pmve"}, {"measure", "pmve"}, {"pay", "p"},
        {"figure", "p"}, {"work", "fh"}, {"work", "fh"}, {"work", "fh"}, {"swap", "ff"}, {"swap", "ff"},
        {"mend", "f"}, {"mend", "f"}, {"melt", "f"}, {"tour", "fjd"}, {"tour", "fjd"},
        {"room", "cs"}, {"lamps", "rc"}, {"lamps", "rc"}, {"show", "fr"}, {"show", "fr"}, {"show", "fr"},
        {"show", "fr"}, {"take", "f"}, {"clean", "r"}, {"clean", "r"}, {"price", "k"},
        {"pass", "Duo"}, {"pass", "Duo"}, {"pass", "Duo"}, {"pass", "Duo"},
        {"ofPerson", "p0"}, {"ofPerson", "p0"}, {"known", "pmx"}, {"ofFigure", "f1"}, {"ofFigure", "f1"},
        {"ofFigure", "f1"}, {"ofRoom", "r2"}, {"many", "3"}, {"many", "3"}, {"meanLikeness", ""},
        {"wouldFame", "pln"}, {"readyIn", "f"}, {"readyIn", "f"}, {"meltsIn", "fuo"}, {"meltsIn", "fuo"},
        {"bestNext", ""}, {"digest", ""}, {"digest", ""},
    };
    /** What ends figures, or forbids them, comes seldom; what brings them forth comes in its place. */
    private static final List<String> SELDOM = List.of("melt", "news", "price", "person", "pay", "take");
    private static final String[][] OFTEN = {{"work", "fh"}, {"show", "fr"}, {"clean", "r"}, {"tour", "fjd"},
        {"swap", "ff"}};
    private static final String KINDS = "wpltbmvefhjdcsrkDuo0123n";
    private static final int[] LEAST = {0, 0, 0, -40, -500, 0, 0, 0, 0, 0, 1, 1, 0, 1, 0, 0, 1, 0, 0, 0, 0, 0, 0, 0};
    private static final int[] MOST = {999, 9, 2, 40, 500, 5, 99, 20, 7, 9, 2, 60, 9, 4, 4, 20, 40, 2000, 40, 10, 11, 3,
        14, 60};

    private static long seed;

    public static void main(String[] args) throws ReflectiveOperationException {
        for (int run = 0; run < 400; run++) {
            seed = 1000003L * run + 5;
            runOne(run);
        }
        Checks.finish();
    }

    private static int next(int bound) {
        seed = seed * 6364136223846793005L + 1442695040888963407L;
        return (int) ((seed >>> 33) % bound);
    }

    private static int between(int least, int most) {
        return least + next(most - least + 1);
    }

    private static int argument(char kind, Model model) {
        int at = KINDS.indexOf(kind);
        int least = LEAST[at];
        int most = MOST[at];
        switch (next(40)) {
            case 0: return least - 1;
            case 1: return most + 1;
            case 2: return least;
            case 3: return most;
            case 4: return next(2) == 0 ? Integer.MIN_VALUE : Integer.MAX_VALUE;
            default: return usual(kind, least, most, model);
        }
    }

    /** Narrow enough that long runs get somewhere: figures are made, shown, worn and melted late. */
    private static int usual(char kind, int least, int most, Model model) {
        switch (kind) {
            case 'p': return next(Math.max(1, model.many(1)));
            case 'f': return next(Math.max(1, model.many(2)));
            case 'r': return next(Math.max(1, model.many(7)));
            case 'D': return between(1, next(4) == 0 ? 40 : 4);
            case 'u': return next(3) == 0 ? between(0, 2000) : between(0, 300);
            case 'o': return next(3) == 0 ? between(0, 40) : between(20, 29);
            case 'e': return between(0, next(2) == 0 ? 20 : 4);
            case 'v': return next(3) == 0 ? between(0, 99) : between(40, 55);
            case 'd': return between(1, next(4) == 0 ? 60 : 6);
            default: return between(least, most);
        }
    }

    private static Class<?>[] typesOf(String kinds) {
        Class<?>[] types = new Class<?>[kinds.length()];
        for (int i = 0; i < types.length; i++) {
            types[i] = kinds.charAt(i) == 'x' ? boolean.class : int.class;
        }
        return types;
    }

    private static String answer(Object house, String name, Class<?>[] types, Object[] arguments)
            throws ReflectiveOperationException {
        Method method = house.getClass().getDeclaredMethod(name, types);
        try {
            return String.valueOf(method.invoke(house, arguments));
        } catch (InvocationTargetException e) {
            return e.getCause().getClass().getName();
        }
    }

    private static void both(String run, Waxrow x, Model model, String name, String kinds, Object... arguments)
            throws ReflectiveOperationException {
        Class<?>[] types = typesOf(kinds);
        Checks.due(run + ": " + name + Arrays.toString(arguments), answer(model, name, types, arguments),
                answer(x, name, types, arguments));
    }

    private static void runOne(int run) throws ReflectiveOperationException {
        Waxrow x = new Waxrow();
        Model model = new Model();
        int calls = run % 4 == 0 ? 0 : begin("run " + run, x, model);
        for (; calls < CALLS - 1; calls++) {
            String[] call = CALLS_AND_KINDS[next(CALLS_AND_KINDS.length)];
            if (SELDOM.contains(call[0]) && next(4) > 0) {
                call = OFTEN[next(OFTEN.length)];
            }
            Object[] arguments = new Object[call[1].length()];
            for (int i = 0; i < arguments.length; i++) {
                char kind = call[1].charAt(i);
                if (kind == 'x') {
                    arguments[i] = next(8) > 0;
                } else {
                    arguments[i] = argument(kind, model);
                }
            }
            both("run " + run + ", call " + calls, x, model, call[0], call[1], arguments);
        }
        both("run " + run + ", at its end", x, model, "digest", "");
    }

    /** Persons who are known well, with a figure each that is done, and rooms; answers how many calls that took. */
    private static int begin(String run, Waxrow x, Model model) throws ReflectiveOperationException {
        int persons = between(2, 9);
        int calls = 0;
        for (int person = 0; person < persons; person++) {
            both(run, x, model, "person", "www", between(0, 999), between(0, 999), between(0, 999));
            both(run, x, model, "consent", "px", person, true);
            for (int measure = 0; measure < 6; measure++) {
                both(run, x, model, "measure", "pmve", person, measure, between(0, 99), between(0, 9));
            }
            both(run, x, model, "trend", "plt", person, 0, between(-40, 40));
            calls += 9;
        }
        for (int figure = 0; figure < Math.min(persons, 5); figure++) {
            both(run, x, model, "figure", "p", figure);
            both(run, x, model, "work", "fh", figure, 9);
            both(run, x, model, "pass", "Duo", 4, 0, 0);
            calls += 3;
        }
        int rooms = between(1, 3);
        for (int room = 0; room < rooms; room++) {
            both(run, x, model, "room", "cs", between(0, 9), between(1, 4));
            calls++;
        }
        return calls;
    }
}
