import java.util.Arrays;

/** Promises 27 to 31: wouldFame, readyIn, meltsIn, bestNext, digest. */
public final class WouldBeTest {
    public static void main(String[] args) {
        wouldFameGoesThroughMonths();
        wouldFameIsRefused();
        readyInCountsDays();
        readyInIsRefused();
        meltsInIsWhatHappens();
        meltsInReachesSixtyDays();
        meltsInTakesAllThatGoesOn();
        meltsInKnowsHeadsAndFlaws();
        meltsInIsNoneOutsideOfRooms();
        meltsInIsRefused();
        bestNextIsTheMostFamous();
        bestNextLooksSixMonthsAhead();
        bestNextLooksAtDoubtThenNumber();
        bestNextLeavesOutHeads();
        digestFoldsAllAnswers();
        digestAsksOfNineHundredVisitorsAndThirtyOfWarmth();
        Checks.finish();
    }

    private static void wouldFameGoesThroughMonths() {
        Waxrow x = new Waxrow();
        x.person(100, 990, 3);
        x.trend(0, 0, 3);
        x.trend(0, 1, 40);
        x.trend(0, 2, -40);
        int[] here = {100, 103, 105, 106, 106};
        for (int months = 0; months < here.length; months++) {
            Checks.due("behind " + months, here[months], x.wouldFame(0, 0, months));
        }
        Checks.due("behind 60", 106, x.wouldFame(0, 0, 60));
        Checks.due("999 at most", 999, x.wouldFame(0, 1, 1));
        Checks.due("0 at least", 0, x.wouldFame(0, 2, 60));
        x.trend(0, 0, -40);
        Checks.due("held on the way", 0, x.wouldFame(0, 0, 3));
        Checks.due("nothing is changed", 100, x.ofPerson(0, 0));
        Checks.due("no trend is changed", -40, x.ofPerson(0, 3));
        x.news(0, 400);
        int would = x.wouldFame(0, 0, 1);
        x.pass(30, 0, 0);
        Checks.due("what would be comes", would, x.ofPerson(0, 0));
    }

    private static void wouldFameIsRefused() {
        Waxrow x = new Waxrow();
        x.person(1, 2, 3);
        Checks.refused("no such person", x, Checks.INDEX, () -> x.wouldFame(1, 0, 61));
        Checks.refused("person -1", x, Checks.INDEX, () -> x.wouldFame(-1, 0, 0));
        Checks.refused("land 3", x, Checks.INDEX, () -> x.wouldFame(0, 3, 61));
        Checks.refused("land -1", x, Checks.INDEX, () -> x.wouldFame(0, -1, 0));
        Checks.refused("months 61", x, Checks.ARGUMENT, () -> x.wouldFame(0, 0, 61));
        Checks.refused("months -1", x, Checks.ARGUMENT, () -> x.wouldFame(0, 0, -1));
    }

    private static void readyInCountsDays() {
        Waxrow x = new Waxrow();
        x.person(0, 0, 0);
        x.figure(0);
        Checks.due("without hands", -1, x.readyIn(0));
        int[] days = {36, 18, 12, 9, 8, 6, 6, 5, 4};
        for (int hands = 1; hands <= 9; hands++) {
            x.work(0, hands);
            Checks.due("with " + hands, days[hands - 1], x.readyIn(0));
        }
        x.work(0, 5);
        x.pass(3, 0, 0);
        Checks.due("21 of work are left", 5, x.readyIn(0));
        x.work(0, 7);
        Checks.due("with seven", 3, x.readyIn(0));
        Checks.due("not ahead of that", 0, x.pass(2, 0, 0));
        Checks.due("one more", 1, x.readyIn(0));
        Checks.due("then it is done", 1, x.pass(1, 0, 0));
        Checks.due("done", 0, x.readyIn(0));
        x.melt(0);
        Checks.due("melted", -1, x.readyIn(0));
        x.figure(0);
        x.work(1, 3);
        x.melt(1);
        Checks.due("melted in work", -1, x.readyIn(1));
    }

    private static void readyInIsRefused() {
        Waxrow x = new Waxrow();
        x.person(0, 0, 0);
        x.figure(0);
        Checks.refused("no such figure", x, Checks.INDEX, () -> x.readyIn(1));
        Checks.refused("figure -1", x, Checks.INDEX, () -> x.readyIn(-1));
    }

    private static void meltsInIsWhatHappens() {
        Waxrow x = Checks.houseThatShows(500, 9);
        String before = Checks.stateOf(x);
        // 1500 touch it: 30, and 3, and 13.
        Checks.due("46 a day", 3, x.meltsIn(0, 2000, 40));
        Checks.due("16 a day", 7, x.meltsIn(0, 0, 40));
        Checks.due("nothing is changed", before, Checks.stateOf(x));
        x.pass(2, 2000, 40);
        Checks.due("on the next day", 1, x.meltsIn(0, 0, 40));
        Checks.due("it is melted", 1, x.pass(1, 0, 40));
        Checks.due("melted", -1, x.meltsIn(0, 2000, 40));
    }

    private static void meltsInReachesSixtyDays() {
        Waxrow x = Checks.houseThatShows(0, 3);
        Checks.due("100 days of 1", -1, x.meltsIn(0, 2000, 25));
        x.pass(39, 0, 0);
        Checks.due("61 days", -1, x.meltsIn(0, 0, 0));
        x.pass(1, 0, 0);
        Checks.due("60 days", 60, x.meltsIn(0, 0, 0));
        x.lamps(0, 0);
        Checks.due("never", -1, x.meltsIn(0, 2000, 40));
    }

    private static void meltsInTakesAllThatGoesOn() {
        for (int visitors = 0; visitors <= 2000; visitors += 125) {
            checkForecast(houseWithMuchGoingOn(5), houseWithMuchGoingOn(5), visitors, 24 + visitors / 125);
        }
        checkForecast(houseWithMuchGoingOn(1), houseWithMuchGoingOn(1), 700, 30);
    }

    private static Waxrow houseWithMuchGoingOn(int price) {
        Waxrow x = Checks.houseThatShows(600, 0);
        Checks.doneFigure(x, Checks.measuredPerson(x, 300, 50, 0));
        Checks.doneFigure(x, 1);
        x.show(1, x.room(9, 2));
        x.tour(2, 1, 3);
        x.trend(0, 0, -40);
        x.trend(1, 0, 40);
        x.work(x.figure(1), 2);
        x.price(price);
        return x;
    }

    /** A twin of the house goes through the days, one by one: its figures are melted when the house says. */
    private static void checkForecast(Waxrow x, Waxrow twin, int visitors, int warmth) {
        int[] meltedOn = new int[x.many(2)];
        Arrays.fill(meltedOn, -1);
        for (int day = 1; day <= 60; day++) {
            twin.pass(1, visitors, warmth);
            for (int figure = 0; figure < meltedOn.length; figure++) {
                if (meltedOn[figure] < 0 && twin.ofFigure(figure, 8) == 7) {
                    meltedOn[figure] = day;
                }
            }
        }
        for (int figure = 0; figure < meltedOn.length; figure++) {
            Checks.due("figure " + figure + " with " + visitors + " and " + warmth, meltedOn[figure],
                    x.meltsIn(figure, visitors, warmth));
        }
    }

    /** Two that share the touches by likeness, which a swapped head of another height and flaws make unlike. */
    private static Waxrow houseOfUnlikeTwo() {
        Waxrow x = new Waxrow();
        Checks.measuredPerson(x, 900, 20, 9);
        Checks.measuredPerson(x, 900, 90, 1);
        Checks.measuredPerson(x, 900, 50, 0);
        for (int i = 0; i < 3; i++) {
            Checks.doneFigure(x, i);
        }
        x.swap(0, 1);
        x.room(1, 4);
        x.show(0, 0);
        x.show(2, 0);
        x.price(0);
        return x;
    }

    private static void meltsInKnowsHeadsAndFlaws() {
        Waxrow x = houseOfUnlikeTwo();
        Checks.due("likeness of the swapped one", 63, x.ofFigure(0, 7));
        Checks.due("likeness of the other", 100, x.ofFigure(2, 7));
        for (int visitors = 0; visitors <= 2000; visitors += 50) {
            checkForecast(x, houseOfUnlikeTwo(), visitors, 26);
        }
    }

    private static void meltsInIsNoneOutsideOfRooms() {
        Waxrow x = new Waxrow();
        Checks.doneFigure(x, Checks.measuredPerson(x, 500, 50, 0));
        x.room(9, 4);
        x.figure(0);
        x.work(1, 9);
        Checks.due("in the store", -1, x.meltsIn(0, 2000, 40));
        Checks.due("in work", -1, x.meltsIn(1, 2000, 40));
        x.tour(0, 1, 60);
        Checks.due("on tour", -1, x.meltsIn(0, 2000, 40));
        x.melt(1);
        Checks.due("melted", -1, x.meltsIn(1, 2000, 40));
    }

    private static void meltsInIsRefused() {
        Waxrow x = Checks.houseThatShows(500, 9);
        Checks.refused("no such figure", x, Checks.INDEX, () -> x.meltsIn(1, 2001, 0));
        Checks.refused("figure -1", x, Checks.INDEX, () -> x.meltsIn(-1, 0, 0));
        Checks.refused("visitors 2001", x, Checks.ARGUMENT, () -> x.meltsIn(0, 2001, 0));
        Checks.refused("visitors -1", x, Checks.ARGUMENT, () -> x.meltsIn(0, -1, 0));
        Checks.refused("warmth 41", x, Checks.ARGUMENT, () -> x.meltsIn(0, 0, 41));
        Checks.refused("warmth -1", x, Checks.ARGUMENT, () -> x.meltsIn(0, 0, -1));
        x.take(0);
        x.melt(0);
        Checks.refused("melted, and warmth 41", x, Checks.ARGUMENT, () -> x.meltsIn(0, 0, 41));
    }

    private static void bestNextIsTheMostFamous() {
        Waxrow x = new Waxrow();
        x.person(100, 0, 0);
        x.person(90, 999, 999);
        x.person(95, 0, 0);
        Checks.due("nobody gives consent", -1, x.bestNext());
        x.consent(1, true);
        Checks.due("the only one", 1, x.bestNext());
        x.consent(0, true);
        x.consent(2, true);
        Checks.due("the most famous", 0, x.bestNext());
        // Six months of 4, 3, 2, 1, 0, 0 bring 10, of 3 bring 6.
        x.trend(1, 0, 4);
        Checks.due("the same behind six months, so the smaller number", 0, x.bestNext());
        x.trend(2, 0, 3);
        Checks.due("101 behind six months", 2, x.bestNext());
        x.trend(2, 0, -1);
        x.trend(0, 0, -40);
        Checks.due("100 behind six months", 1, x.bestNext());
        x.consent(1, false);
        Checks.due("without consent", 2, x.bestNext());
    }

    private static void bestNextLooksSixMonthsAhead() {
        Waxrow x = new Waxrow();
        x.person(115, 0, 0);
        x.person(70, 0, 0);
        x.consent(0, true);
        x.consent(1, true);
        // 10, 9, 8, 7, 6, 5, 4: 40 in five months, 45 in six, 49 in seven.
        x.trend(1, 0, 10);
        Checks.due("115 each", 0, x.bestNext());
        x.news(0, -1);
        Checks.due("115 against 114", 1, x.bestNext());
        x.news(0, 2);
        Checks.due("115 against 116", 0, x.bestNext());
    }

    private static void bestNextLooksAtDoubtThenNumber() {
        Waxrow x = new Waxrow();
        for (int i = 0; i < 3; i++) {
            x.person(50, 0, 0);
            x.consent(i, true);
        }
        Checks.due("the smallest number", 0, x.bestNext());
        x.measure(2, 3, 50, 10);
        Checks.due("the least doubt", 2, x.bestNext());
        x.measure(1, 0, 50, 9);
        Checks.due("doubts are rounded down", 85, x.ofPerson(1, 8));
        Checks.due("those, too", 85, x.ofPerson(2, 8));
        Checks.due("the smaller number of the same doubt", 1, x.bestNext());
        x.news(0, 1);
        Checks.due("fame goes ahead of doubt", 0, x.bestNext());
    }

    private static void bestNextLeavesOutHeads() {
        Waxrow x = new Waxrow();
        Checks.measuredPerson(x, 900, 40, 0);
        Checks.measuredPerson(x, 500, 40, 0);
        Checks.measuredPerson(x, 100, 40, 0);
        x.figure(0);
        Checks.due("a frame is a figure, too", 1, x.bestNext());
        x.melt(0);
        Checks.due("a melted one is none", 0, x.bestNext());
        Checks.doneFigure(x, 0);
        Checks.doneFigure(x, 1);
        Checks.due("the third", 2, x.bestNext());
        x.swap(1, 2);
        x.melt(1);
        Checks.due("the head counts, not the body", 1, x.bestNext());
        x.figure(1);
        x.figure(2);
        Checks.due("nobody is left", -1, x.bestNext());
    }

    /** The fold as the document tells it, over what the public calls answer. */
    static long foldOf(Waxrow x) {
        long d = 58234;
        for (int what = 0; what <= 14; what++) {
            d = d * 31 + x.many(what);
        }
        for (int i = 0; i < x.many(1); i++) {
            for (int what = 0; what <= 10; what++) {
                d = d * 31 + x.ofPerson(i, what);
            }
            for (int measure = 0; measure < 6; measure++) {
                d = d * 31 + x.known(i, measure, false);
                d = d * 31 + x.known(i, measure, true);
            }
            d = d * 31 + x.wouldFame(i, 0, 9);
        }
        for (int i = 0; i < x.many(2); i++) {
            for (int what = 0; what <= 11; what++) {
                d = d * 31 + x.ofFigure(i, what);
            }
            d = d * 31 + x.readyIn(i);
            d = d * 31 + x.meltsIn(i, 900, 30);
        }
        for (int i = 0; i < x.many(7); i++) {
            for (int what = 0; what <= 3; what++) {
                d = d * 31 + x.ofRoom(i, what);
            }
        }
        return d * 31 + x.bestNext();
    }

    private static void digestFoldsAllAnswers() {
        Waxrow x = new Waxrow();
        Checks.due("of a new house", foldOf(x), x.digest());
        x.person(500, 400, 300);
        Checks.due("with a person", foldOf(x), x.digest());
        Waxrow y = Checks.houseThatShows(700, 8);
        y.work(y.figure(0), 5);
        y.trend(0, 0, 11);
        y.pass(7, 800, 31);
        y.room(1, 1);
        y.person(4, 5, 6);
        y.consent(1, true);
        String before = Checks.stateOf(y);
        Checks.due("of a house at work", foldOf(y), y.digest());
        Checks.due("asked again", foldOf(y), y.digest());
        Checks.due("nothing is changed", before, Checks.stateOf(y));
    }

    private static void digestAsksOfNineHundredVisitorsAndThirtyOfWarmth() {
        Waxrow warm = Checks.houseThatShows(0, 9);
        Checks.due("seven a day", 15, warm.meltsIn(0, 900, 30));
        Checks.due("eight a day", 13, warm.meltsIn(0, 900, 31));
        Checks.due("six a day", 17, warm.meltsIn(0, 900, 29));
        Checks.due("of a warm house", foldOf(warm), warm.digest());
        Waxrow full = Checks.houseThatShows(500, 3);
        full.price(0);
        Checks.due("twenty a day", 5, full.meltsIn(0, 900, 30));
        Checks.due("nineteen a day", 6, full.meltsIn(0, 899, 30));
        Checks.due("of a full house", foldOf(full), full.digest());
        Waxrow shared = houseOfTwoWornByNinety();
        Checks.due("8 and 1", 2, shared.meltsIn(0, 900, 30));
        Checks.due("9 and 1", 1, shared.meltsIn(0, 901, 30));
        Checks.due("of a house with two", foldOf(shared), shared.digest());
    }

    /** The draws are 548 and 549, so that just half of 900 visitors do not touch the first. */
    private static Waxrow houseOfTwoWornByNinety() {
        Waxrow x = new Waxrow();
        x.price(0);
        x.room(2, 2);
        for (int i = 0; i < 2; i++) {
            Checks.doneFigure(x, Checks.measuredPerson(x, 998 + i, 50, 0));
            Checks.wearOnTour(x, i, 90);
            x.show(i, 0);
        }
        Checks.due("wear ahead of the second", 90, x.ofFigure(0, 6));
        return x;
    }
}
