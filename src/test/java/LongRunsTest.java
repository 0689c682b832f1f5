import java.lang.reflect.InvocationTargetException;
import java.lang.reflect.Method;
import java.util.Arrays;
import java.util.List;

/**
 * Runs of 512 calls with fixed, scattered arguments, wrong ones among them. A call throws only what its face names,
 * one that throws changes nothing, one that asks changes nothing, and what must always hold does.
 */
public final class LongRunsTest {
    private static final int RUNS = 60;
    private static final int CALLS = 512;
    private static final List<String> ASKING = List.of("ofPerson", "known", "ofFigure", "ofRoom", "many",
            "meanLikeness", "wouldFame", "readyIn", "meltsIn", "bestNext", "digest");
    private static final int[] EDGES = {-1, 0, 1, 5, 9, 10, 20, 40, 60, 99, 100, 500, 999, 1000, 2000, 2001,
        Integer.MIN_VALUE, Integer.MAX_VALUE};

    private static long seed;

    public static void main(String[] args) throws IllegalAccessException {
        Method[] methods = Arrays.stream(Waxrow.class.getDeclaredMethods())
                .filter(m -> java.lang.reflect.Modifier.isPublic(m.getModifiers()))
                .sorted((a, b) -> a.getName().compareTo(b.getName())).toArray(Method[]::new);
        for (int run = 0; run < RUNS; run++) {
            seed = 77777L * run + 1;
            Waxrow x = run % 3 == 0 ? new Waxrow() : Checks.houseThatShows(300 + 7 * run, run % 10);
            for (int call = 0; call < CALLS; call++) {
                callOne(x, methods[next(methods.length)], run);
            }
        }
        Checks.finish();
    }

    private static int next(int bound) {
        seed = seed * 6364136223846793005L + 1442695040888963407L;
        return (int) ((seed >>> 33) % bound);
    }

    private static Object argument(Class<?> type) {
        if (type == boolean.class) {
            return next(4) > 0;
        }
        switch (next(6)) {
            case 0: return EDGES[next(EDGES.length)];
            case 1: return next(1000);
            case 2: return next(40);
            default: return next(4);
        }
    }

    private static void callOne(Waxrow x, Method method, int run) throws IllegalAccessException {
        Object[] arguments = new Object[method.getParameterCount()];
        for (int i = 0; i < arguments.length; i++) {
            arguments[i] = argument(method.getParameterTypes()[i]);
        }
        String name = "run " + run + ": " + method.getName() + Arrays.toString(arguments);
        String before = Checks.stateOf(x);
        boolean isSame = ASKING.contains(method.getName());
        try {
            method.invoke(x, arguments);
        } catch (InvocationTargetException e) {
            isSame = true;
            Class<?> thrown = e.getCause().getClass();
            boolean isNamed = Arrays.asList(method.getExceptionTypes()).contains(thrown);
            Checks.due(name + " throws what its face names, not " + thrown, "true", String.valueOf(isNamed));
        }
        if (isSame) {
            Checks.due(name + " changes nothing", before, Checks.stateOf(x));
        }
        checkWhatAlwaysHolds(x, name);
    }

    private static void checkWhatAlwaysHolds(Waxrow x, String name) {
        int hands = 0;
        for (int i = 0; i < x.many(2); i++) {
            hands += x.ofFigure(i, 4);
            int place = x.ofFigure(i, 8);
            Checks.due(name + ": days of tour only on tour", place == 6 ? 1 : 0, x.ofFigure(i, 9) > 0 ? 1 : 0);
            Checks.due(name + ": no hands when done", 0, x.ofFigure(i, 2) == 6 ? x.ofFigure(i, 4) : 0);
            int shown = x.ofPerson(x.ofFigure(i, 0), 10);
            Checks.due(name + ": one of a head is shown", place < 5 ? i : shown, shown);
            Checks.due(name + ": shown with consent", 1, place < 5 ? x.ofPerson(x.ofFigure(i, 0), 6) : 1);
        }
        Checks.due(name + ": all hands", hands, x.many(12));
        Checks.due(name + ": twelve hands at most", 1, hands <= 12 ? 1 : 0);
        int draws = 0;
        for (int i = 0; i < x.many(7); i++) {
            draws += x.ofRoom(i, 3);
            Checks.due(name + ": spots", 1, x.ofRoom(i, 2) >= 0 ? 1 : 0);
        }
        Checks.due(name + ": all draws", draws, x.many(14));
    }
}
