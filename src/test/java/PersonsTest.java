/** Promises 2 to 7: person, trend, news, consent, measure, pay. */
public final class PersonsTest {
    public static void main(String[] args) {
        personIsTold();
        personIsRefused();
        trendIsTold();
        newsChangeFameInAllLands();
        consentComesAndGoes();
        consentWithdrawnLeavesTours();
        measuresNarrow();
        measuresClash();
        measureIsRefused();
        payGivesWhatIsDue();
        Checks.finish();
    }

    private static void personIsTold() {
        Waxrow x = new Waxrow();
        Checks.due("first", 0, x.person(500, 0, 999));
        Checks.due("second", 1, x.person(1, 2, 3));
        int[] first = {500, 0, 999, 0, 0, 0, 0, 0, 99, 0, -1};
        for (int what = 0; what < first.length; what++) {
            Checks.due("ofPerson(0, " + what + ") at first", first[what], x.ofPerson(0, what));
        }
        for (int land = 0; land < 3; land++) {
            Checks.due("fame of the second", land + 1, x.ofPerson(1, land));
        }
        Checks.due("low at first", 0, x.known(1, 5, false));
        Checks.due("high at first", 99, x.known(1, 5, true));
    }

    private static void personIsRefused() {
        Waxrow x = new Waxrow();
        int[] outside = {-1, 1000, Integer.MIN_VALUE, Integer.MAX_VALUE};
        for (int fame : outside) {
            Checks.refused("here " + fame, x, Checks.ARGUMENT, () -> x.person(fame, 0, 0));
            Checks.refused("there " + fame, x, Checks.ARGUMENT, () -> x.person(0, fame, 0));
            Checks.refused("beyond " + fame, x, Checks.ARGUMENT, () -> x.person(0, 0, fame));
        }
        for (int i = 0; i < 10; i++) {
            Checks.due("number", i, x.person(0, 999, i));
        }
        Checks.refused("an eleventh", x, Checks.STATE, () -> x.person(0, 0, 0));
        Checks.refused("an eleventh with a wrong fame", x, Checks.ARGUMENT, () -> x.person(0, 0, 1000));
    }

    private static void trendIsTold() {
        Waxrow x = new Waxrow();
        x.person(100, 100, 100);
        Checks.due("trend at first", 0, x.trend(0, 1, -40));
        Checks.due("trend before", -40, x.trend(0, 1, 40));
        Checks.due("trend in another land", 0, x.trend(0, 2, 7));
        Checks.due("trend here", 0, x.ofPerson(0, 3));
        Checks.due("trend there", 40, x.ofPerson(0, 4));
        Checks.due("trend beyond", 7, x.ofPerson(0, 5));
        Checks.refused("no such person", x, Checks.INDEX, () -> x.trend(1, 0, 0));
        Checks.refused("person -1", x, Checks.INDEX, () -> x.trend(-1, 0, 41));
        Checks.refused("land 3", x, Checks.INDEX, () -> x.trend(0, 3, 41));
        Checks.refused("land -1", x, Checks.INDEX, () -> x.trend(0, -1, 0));
        Checks.refused("trend 41", x, Checks.ARGUMENT, () -> x.trend(0, 0, 41));
        Checks.refused("trend -41", x, Checks.ARGUMENT, () -> x.trend(0, 0, -41));
    }

    private static void newsChangeFameInAllLands() {
        Waxrow x = new Waxrow();
        x.person(500, 100, 990);
        x.trend(0, 0, 9);
        Checks.due("good news", 520, x.news(0, 20));
        Checks.due("there", 120, x.ofPerson(0, 1));
        Checks.due("held beyond", 999, x.ofPerson(0, 2));
        Checks.due("bad news", 20, x.news(0, -500));
        Checks.due("held there", 0, x.ofPerson(0, 1));
        Checks.due("less beyond", 499, x.ofPerson(0, 2));
        Checks.due("most news", 520, x.news(0, 500));
        Checks.due("held here", 999, x.news(0, 480));
        Checks.due("trend stays", 9, x.ofPerson(0, 3));
        Checks.refused("no such person", x, Checks.INDEX, () -> x.news(1, 501));
        Checks.refused("person -1", x, Checks.INDEX, () -> x.news(-1, 0));
        Checks.refused("by 501", x, Checks.ARGUMENT, () -> x.news(0, 501));
        Checks.refused("by -501", x, Checks.ARGUMENT, () -> x.news(0, -501));
    }

    private static void consentComesAndGoes() {
        Waxrow x = Checks.houseThatShows(500, 0);
        Checks.due("consent given", 1, x.ofPerson(0, 6));
        Checks.due("consent given again takes none out", 0, x.consent(0, true));
        Checks.due("still shown", 0, x.ofFigure(0, 8));
        Checks.due("withdrawn takes one out", 1, x.consent(0, false));
        Checks.due("it is in the store", 5, x.ofFigure(0, 8));
        Checks.due("no consent", 0, x.ofPerson(0, 6));
        Checks.due("withdrawn again", 0, x.consent(0, false));
        Checks.due("given anew brings none back", 0, x.consent(0, true));
        Checks.due("it stays in the store", 5, x.ofFigure(0, 8));
        Checks.refused("no such person", x, Checks.INDEX, () -> x.consent(1, true));
        Checks.refused("person -1", x, Checks.INDEX, () -> x.consent(-1, false));
    }

    private static void consentWithdrawnLeavesTours() {
        Waxrow x = Checks.houseThatShows(500, 0);
        Checks.measuredPerson(x, 400, 50, 0);
        Checks.doneFigure(x, 0);
        x.tour(1, 1, 2);
        Checks.doneFigure(x, 1);
        x.show(2, x.room(0, 1));
        x.tour(1, 2, 2);
        Checks.due("withdrawn takes one out", 1, x.consent(0, false));
        Checks.due("that on tour stays there", 6, x.ofFigure(1, 8));
        Checks.due("that of another person stays", 1, x.ofFigure(2, 8));
        x.pass(2, 0, 0);
        Checks.due("that on tour comes back", 5, x.ofFigure(1, 8));
    }

    private static void measuresNarrow() {
        Waxrow x = new Waxrow();
        x.person(0, 0, 0);
        Checks.due("measured", 20, x.measure(0, 0, 50, 10));
        Checks.due("low", 40, x.known(0, 0, false));
        Checks.due("high", 60, x.known(0, 0, true));
        Checks.due("measured anew", 3, x.measure(0, 0, 65, 8));
        Checks.due("low of both", 57, x.known(0, 0, false));
        Checks.due("high of both", 60, x.known(0, 0, true));
        Checks.due("touching at one end", 0, x.measure(0, 0, 62, 2));
        Checks.due("that end", 60, x.known(0, 0, false));
        Checks.due("no clash", 0, x.ofPerson(0, 9));
        Checks.due("held at 0", 5, x.measure(0, 1, 0, 5));
        Checks.due("held at 99", 20, x.measure(0, 2, 99, 20));
        Checks.due("low of that", 79, x.known(0, 2, false));
        Checks.due("other measures stay", 99, x.known(0, 3, true));
    }

    private static void measuresClash() {
        Waxrow x = new Waxrow();
        x.person(0, 0, 0);
        x.measure(0, 4, 50, 3);
        Checks.due("just beside", 4, x.measure(0, 4, 56, 2));
        Checks.due("low is that of the new one", 54, x.known(0, 4, false));
        Checks.due("high is that of the new one", 58, x.known(0, 4, true));
        Checks.due("a clash", 1, x.ofPerson(0, 9));
        x.measure(0, 4, 0, 1);
        Checks.due("high of the second clash", 1, x.known(0, 4, true));
        Checks.due("two clashes", 2, x.ofPerson(0, 9));
    }

    private static void measureIsRefused() {
        Waxrow x = new Waxrow();
        x.person(0, 0, 0);
        Checks.refused("no such person", x, Checks.INDEX, () -> x.measure(1, 0, 100, 0));
        Checks.refused("person -1", x, Checks.INDEX, () -> x.measure(-1, 0, 0, 0));
        Checks.refused("measure 6", x, Checks.INDEX, () -> x.measure(0, 6, 0, 21));
        Checks.refused("measure -1", x, Checks.INDEX, () -> x.measure(0, -1, 0, 0));
        Checks.refused("value 100", x, Checks.ARGUMENT, () -> x.measure(0, 0, 100, 0));
        Checks.refused("value -1", x, Checks.ARGUMENT, () -> x.measure(0, 0, -1, 0));
        Checks.refused("error 21", x, Checks.ARGUMENT, () -> x.measure(0, 0, 0, 21));
        Checks.refused("error -1", x, Checks.ARGUMENT, () -> x.measure(0, 0, 0, -1));
    }

    private static void payGivesWhatIsDue() {
        Waxrow x = Checks.houseThatShows(500, 0);
        x.pass(1, 400, 0);
        Checks.due("money", 1700, x.many(8));
        Checks.due("due", 3, x.ofPerson(0, 7));
        Checks.due("paid", 3, x.pay(0));
        Checks.due("due then", 0, x.ofPerson(0, 7));
        Checks.due("money then", 1697, x.many(8));
        Checks.due("paid again", 0, x.pay(0));
        Checks.due("money stays", 1697, x.many(8));
        Checks.refused("no such person", x, Checks.INDEX, () -> x.pay(1));
        Checks.refused("person -1", x, Checks.INDEX, () -> x.pay(-1));
    }
}
