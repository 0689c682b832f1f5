import java.lang.reflect.Constructor;
import java.lang.reflect.Field;
import java.lang.reflect.Method;
import java.lang.reflect.Modifier;
import java.util.Arrays;
import java.util.TreeSet;

/** Promise 1, and the document's public face. */
public final class FaceTest {
    private static final String[] FACE = {
        "int person(int, int, int)", "int trend(int, int, int)", "int news(int, int)", "int consent(int, boolean)",
        "int measure(int, int, int, int)", "int pay(int)", "int figure(int)", "int work(int, int)",
        "int swap(int, int)", "int mend(int)", "int melt(int)", "int tour(int, int, int)", "int room(int, int)",
        "int lamps(int, int)", "int show(int, int)", "int take(int)", "int clean(int)", "int price(int)",
        "int pass(int, int, int)", "int ofPerson(int, int)", "int known(int, int, boolean)",
        "int ofFigure(int, int)", "int ofRoom(int, int)", "int many(int)", "double meanLikeness()",
        "int wouldFame(int, int, int)", "int readyIn(int)", "int meltsIn(int, int, int)", "int bestNext()",
        "long digest()",
    };

    public static void main(String[] args) {
        faceIsThatOfTheDocument();
        newHouseIsEmpty();
        housesAreTheirOwn();
        Checks.finish();
    }

    private static void faceIsThatOfTheDocument() {
        TreeSet<String> open = new TreeSet<>();
        for (Method method : Waxrow.class.getDeclaredMethods()) {
            if (!Modifier.isPrivate(method.getModifiers())) {
                String parameters = Arrays.toString(method.getParameterTypes());
                open.add(method.getReturnType() + " " + method.getName()
                        + "(" + parameters.substring(1, parameters.length() - 1) + ")");
            }
        }
        Checks.due("methods", new TreeSet<>(Arrays.asList(FACE)).toString(), open.toString());
        for (Field field : Waxrow.class.getDeclaredFields()) {
            Checks.due("field " + field.getName() + " is private", "true",
                    String.valueOf(Modifier.isPrivate(field.getModifiers())));
        }
        Constructor<?>[] constructors = Waxrow.class.getDeclaredConstructors();
        Checks.due("constructors", "[public Waxrow()]", Arrays.toString(constructors));
        Checks.due("class", "public final", Modifier.toString(Waxrow.class.getModifiers()));
    }

    private static void newHouseIsEmpty() {
        Waxrow x = new Waxrow();
        int[] many = {0, 0, 0, 0, 0, 0, 0, 0, 200, 30, 0, 0, 0, 5, 0};
        for (int what = 0; what < many.length; what++) {
            Checks.due("many(" + what + ") of a new house", many[what], x.many(what));
        }
        Checks.due("meanLikeness of a new house", 0.0, x.meanLikeness());
        Checks.due("bestNext of a new house", -1, x.bestNext());
        Checks.refused("no person", x, Checks.INDEX, () -> x.ofPerson(0, 0));
        Checks.refused("no figure", x, Checks.INDEX, () -> x.ofFigure(0, 0));
        Checks.refused("no room", x, Checks.INDEX, () -> x.ofRoom(0, 0));
    }

    private static void housesAreTheirOwn() {
        Waxrow quiet = new Waxrow();
        String before = Checks.stateOf(quiet);
        Waxrow x = Checks.houseThatShows(500, 3);
        x.pass(3, 1000, 30);
        x.meltsIn(0, 2000, 40);
        Checks.due("another house", before, Checks.stateOf(quiet));
        Checks.due("a later house", before, Checks.stateOf(new Waxrow()));
    }
}
