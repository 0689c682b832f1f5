/** Section 1 of the document, and promises 2 to 7: a test for each sentence that names an edge. */
public final class PersonsEdgesTest {
    public static void main(String[] args) {
        fameIsToldForEachLand();
        trendIsZeroAtFirst();
        consentIsNotGivenAtFirst();
        nothingIsDueAtFirst();
        monthBeginsOnEachThirtiethDay();
        noMonthBeginsOnDayZero();
        monthHoldsFameTo999();
        monthHoldsFameToZero();
        monthHoldsFameInEachLand();
        trendComesNearerToZero();
        fameTakesTheTrendAheadOfItsChange();
        trendToldAnewCountsFromTheNextMonth();
        newsHoldFameTo999();
        newsHoldFameToZero();
        newsOfZeroChangeNothing();
        newsLeaveOthersAlone();
        measuresReachFrom0To99AtFirst();
        measuredLowIsHeldTo0();
        measuredHighIsHeldTo99();
        measuredWithoutErrorIsOneNumber();
        measureKeepsWhatLiesInBoth();
        measureThatTouchesIsNoClash();
        measureBesideIsAClash();
        clashForgetsWhatWasKnown();
        clashesAreCountedForEachPerson();
        doubtIsDividedBySixAndRoundedDown();
        consentWithdrawnTakesShownOnesAlone();
        consentWithdrawnTakesHeadsNotBodies();
        consentGivenOrWithdrawnTwiceTakesNone();
        payTakesMoneyBelowZero();
        payOfNothingChangesNothing();
        Checks.finish();
    }

    private static void fameIsToldForEachLand() {
        Waxrow x = new Waxrow();
        x.person(0, 999, 1);
        x.person(999, 0, 998);
        int[][] fame = {{0, 999, 1}, {999, 0, 998}};
        for (int person = 0; person < 2; person++) {
            for (int land = 0; land < 3; land++) {
                Checks.due("fame of " + person + " in " + land, fame[person][land], x.ofPerson(person, land));
            }
        }
    }

    private static void trendIsZeroAtFirst() {
        Waxrow x = new Waxrow();
        x.person(500, 500, 500);
        for (int land = 0; land < 3; land++) {
            Checks.due("trend in " + land, 0, x.ofPerson(0, 3 + land));
            Checks.due("told the first time in " + land, 0, x.trend(0, land, 1));
        }
    }

    private static void consentIsNotGivenAtFirst() {
        Waxrow x = new Waxrow();
        x.person(500, 500, 500);
        Checks.due("consent", 0, x.ofPerson(0, 6));
        Checks.due("not to be begun next", -1, x.bestNext());
    }

    private static void nothingIsDueAtFirst() {
        Waxrow x = new Waxrow();
        x.person(500, 500, 500);
        Checks.due("due", 0, x.ofPerson(0, 7));
        Checks.due("paid", 0, x.pay(0));
    }

    private static void monthBeginsOnEachThirtiethDay() {
        Waxrow x = new Waxrow();
        x.person(500, 500, 500);
        x.trend(0, 0, 40);
        int[] days = {29, 30, 31, 59, 60, 61, 89, 90, 91, 119, 120};
        int[] fame = {500, 540, 540, 540, 579, 579, 579, 617, 617, 617, 654};
        int gone = 0;
        for (int i = 0; i < days.length; i++) {
            x.pass(days[i] - gone, 0, 0);
            gone = days[i];
            Checks.due("day", days[i], x.many(0));
            Checks.due("fame on day " + days[i], fame[i], x.ofPerson(0, 0));
        }
        Waxrow y = new Waxrow();
        y.person(500, 500, 500);
        y.trend(0, 0, 40);
        y.pass(40, 0, 0);
        y.pass(40, 0, 0);
        Checks.due("months within the days of one call", 579, y.ofPerson(0, 0));
    }

    private static void noMonthBeginsOnDayZero() {
        Waxrow x = new Waxrow();
        x.person(500, 500, 500);
        x.trend(0, 0, 40);
        Checks.due("day", 0, x.many(0));
        Checks.due("fame on day 0", 500, x.ofPerson(0, 0));
        x.pass(1, 0, 0);
        Checks.due("fame on day 1", 500, x.ofPerson(0, 0));
        Checks.due("trend on day 1", 40, x.ofPerson(0, 3));
    }

    private static int fameBehindAMonth(int fame, int trend) {
        Waxrow x = new Waxrow();
        x.person(fame, fame, fame);
        x.trend(0, 0, trend);
        int would = x.wouldFame(0, 0, 1);
        x.pass(30, 0, 0);
        Checks.due("what would be of " + fame + " by " + trend, would, x.ofPerson(0, 0));
        return x.ofPerson(0, 0);
    }

    private static void monthHoldsFameTo999() {
        Checks.due("just below", 998, fameBehindAMonth(958, 40));
        Checks.due("at it", 999, fameBehindAMonth(959, 40));
        Checks.due("just above", 999, fameBehindAMonth(960, 40));
        Checks.due("from 999", 999, fameBehindAMonth(999, 1));
        Checks.due("from 999 down", 998, fameBehindAMonth(999, -1));
    }

    private static void monthHoldsFameToZero() {
        Checks.due("just above", 1, fameBehindAMonth(41, -40));
        Checks.due("at it", 0, fameBehindAMonth(40, -40));
        Checks.due("just below", 0, fameBehindAMonth(39, -40));
        Checks.due("from 0", 0, fameBehindAMonth(0, -1));
        Checks.due("from 0 up", 1, fameBehindAMonth(0, 1));
    }

    private static void monthHoldsFameInEachLand() {
        Waxrow x = new Waxrow();
        x.person(990, 500, 10);
        x.trend(0, 0, 10);
        x.trend(0, 1, -7);
        x.trend(0, 2, -11);
        x.pass(30, 0, 0);
        int[] due = {999, 493, 0, 9, -6, -10};
        for (int what = 0; what < due.length; what++) {
            Checks.due("ofPerson(0, " + what + ")", due[what], x.ofPerson(0, what));
        }
    }

    private static void trendComesNearerToZero() {
        int[] trends = {40, 2, 1, 0, -1, -2, -40};
        int[] next = {39, 1, 0, 0, 0, -1, -39};
        for (int i = 0; i < trends.length; i++) {
            Waxrow x = new Waxrow();
            x.person(500, 500, 500);
            x.trend(0, 1, trends[i]);
            x.pass(29, 0, 0);
            Checks.due("trend ahead of the month", trends[i], x.ofPerson(0, 4));
            x.pass(1, 0, 0);
            Checks.due("trend behind " + trends[i], next[i], x.ofPerson(0, 4));
        }
    }

    private static void fameTakesTheTrendAheadOfItsChange() {
        Checks.due("trend 1", 501, fameBehindAMonth(500, 1));
        Checks.due("trend -1", 499, fameBehindAMonth(500, -1));
        Checks.due("trend 0", 500, fameBehindAMonth(500, 0));
    }

    private static void trendToldAnewCountsFromTheNextMonth() {
        Waxrow x = new Waxrow();
        x.person(500, 500, 500);
        x.trend(0, 0, 40);
        x.pass(29, 0, 0);
        Checks.due("before", 40, x.trend(0, 0, -3));
        x.pass(1, 0, 0);
        Checks.due("fame on day 30", 497, x.ofPerson(0, 0));
        Checks.due("before that", -2, x.trend(0, 0, 0));
        x.pass(30, 0, 0);
        Checks.due("fame on day 60", 497, x.ofPerson(0, 0));
    }

    private static int fameBehindNews(int fame, int by) {
        Waxrow x = new Waxrow();
        x.person(fame, fame, fame);
        int here = x.news(0, by);
        for (int land = 0; land < 3; land++) {
            Checks.due("fame " + fame + " by " + by + " in " + land, here, x.ofPerson(0, land));
        }
        return here;
    }

    private static void newsHoldFameTo999() {
        Checks.due("just below", 998, fameBehindNews(498, 500));
        Checks.due("at it", 999, fameBehindNews(499, 500));
        Checks.due("just above", 999, fameBehindNews(500, 500));
        Checks.due("from 999", 999, fameBehindNews(999, 1));
    }

    private static void newsHoldFameToZero() {
        Checks.due("just above", 1, fameBehindNews(501, -500));
        Checks.due("at it", 0, fameBehindNews(500, -500));
        Checks.due("just below", 0, fameBehindNews(499, -500));
        Checks.due("from 0", 0, fameBehindNews(0, -1));
    }

    private static void newsOfZeroChangeNothing() {
        Waxrow x = new Waxrow();
        x.person(500, 400, 300);
        String before = Checks.stateOf(x);
        Checks.due("fame here", 500, x.news(0, 0));
        Checks.due("state", before, Checks.stateOf(x));
    }

    private static void newsLeaveOthersAlone() {
        Waxrow x = new Waxrow();
        x.person(500, 500, 500);
        x.person(500, 500, 500);
        x.trend(0, 0, 7);
        Checks.due("fame", 600, x.news(0, 100));
        Checks.due("fame of the other", 500, x.ofPerson(1, 0));
        Checks.due("trend", 7, x.ofPerson(0, 3));
    }

    private static void measuresReachFrom0To99AtFirst() {
        Waxrow x = new Waxrow();
        x.person(0, 0, 0);
        for (int measure = 0; measure < 6; measure++) {
            Checks.due("low of " + measure, 0, x.known(0, measure, false));
            Checks.due("high of " + measure, 99, x.known(0, measure, true));
        }
    }

    /** A person whose measure 2 was measured once. */
    private static Waxrow measuredOnce(int value, int error) {
        Waxrow x = new Waxrow();
        x.person(0, 0, 0);
        x.measure(0, 2, value, error);
        return x;
    }

    private static void knownIs(String what, Waxrow x, int low, int high, int clashes) {
        Checks.due(what + ", low", low, x.known(0, 2, false));
        Checks.due(what + ", high", high, x.known(0, 2, true));
        Checks.due(what + ", clashes", clashes, x.ofPerson(0, 9));
    }

    private static void measuredLowIsHeldTo0() {
        knownIs("just above", measuredOnce(21, 20), 1, 41, 0);
        knownIs("at it", measuredOnce(20, 20), 0, 40, 0);
        knownIs("just below", measuredOnce(19, 20), 0, 39, 0);
        knownIs("far below", measuredOnce(0, 20), 0, 20, 0);
    }

    private static void measuredHighIsHeldTo99() {
        knownIs("just below", measuredOnce(78, 20), 58, 98, 0);
        knownIs("at it", measuredOnce(79, 20), 59, 99, 0);
        knownIs("just above", measuredOnce(80, 20), 60, 99, 0);
        knownIs("far above", measuredOnce(99, 20), 79, 99, 0);
    }

    private static void measuredWithoutErrorIsOneNumber() {
        knownIs("at 0", measuredOnce(0, 0), 0, 0, 0);
        knownIs("between", measuredOnce(50, 0), 50, 50, 0);
        knownIs("at 99", measuredOnce(99, 0), 99, 99, 0);
    }

    /** Known from 40 to 60 first. */
    private static void measuredTwice(String what, int value, int error, int low, int high, int clashes) {
        Waxrow x = measuredOnce(50, 10);
        Checks.due(what + ", answer", high - low, x.measure(0, 2, value, error));
        knownIs(what, x, low, high, clashes);
    }

    private static void measureKeepsWhatLiesInBoth() {
        measuredTwice("the same", 50, 10, 40, 60, 0);
        measuredTwice("within", 50, 4, 46, 54, 0);
        measuredTwice("around", 50, 20, 40, 60, 0);
        measuredTwice("over the low end", 38, 7, 40, 45, 0);
        measuredTwice("over the high end", 62, 7, 55, 60, 0);
        measuredTwice("one more at each end", 50, 11, 40, 60, 0);
        measuredTwice("one less at each end", 50, 9, 41, 59, 0);
    }

    private static void measureThatTouchesIsNoClash() {
        measuredTwice("at the low end", 35, 5, 40, 40, 0);
        measuredTwice("at the high end", 65, 5, 60, 60, 0);
        measuredTwice("at the low end, without error", 40, 0, 40, 40, 0);
        measuredTwice("at the high end, without error", 60, 0, 60, 60, 0);
    }

    private static void measureBesideIsAClash() {
        measuredTwice("below the low end", 34, 5, 29, 39, 1);
        measuredTwice("above the high end", 66, 5, 61, 71, 1);
        measuredTwice("below, without error", 39, 0, 39, 39, 1);
        measuredTwice("above, without error", 61, 0, 61, 61, 1);
        measuredTwice("far below, held", 3, 8, 0, 11, 1);
        measuredTwice("far above, held", 97, 8, 89, 99, 1);
    }

    private static void clashForgetsWhatWasKnown() {
        Waxrow x = measuredOnce(50, 10);
        x.measure(0, 2, 80, 10);
        knownIs("behind a clash", x, 70, 90, 1);
        Checks.due("what was known first clashes now", 20, x.measure(0, 2, 50, 10));
        knownIs("behind two", x, 40, 60, 2);
    }

    private static void clashesAreCountedForEachPerson() {
        Waxrow x = measuredOnce(50, 0);
        x.person(0, 0, 0);
        x.measure(0, 3, 50, 0);
        x.measure(0, 2, 51, 0);
        x.measure(0, 3, 49, 0);
        Checks.due("of all measures", 2, x.ofPerson(0, 9));
        Checks.due("of the other person", 0, x.ofPerson(1, 9));
    }

    /** All measures without error but one, which is known from 0 to this. */
    private static int doubtOfWidth(int width) {
        Waxrow x = new Waxrow();
        x.person(0, 0, 0);
        for (int measure = 1; measure < 6; measure++) {
            x.measure(0, measure, 50, 0);
        }
        x.measure(0, 0, 0, width);
        return x.ofPerson(0, 8);
    }

    private static void doubtIsDividedBySixAndRoundedDown() {
        int[] widths = {0, 5, 6, 11, 12, 17, 18};
        int[] doubts = {0, 0, 1, 1, 2, 2, 3};
        for (int i = 0; i < widths.length; i++) {
            Checks.due("doubt of " + widths[i], doubts[i], doubtOfWidth(widths[i]));
        }
        Waxrow x = new Waxrow();
        x.person(0, 0, 0);
        Checks.due("doubt of 594", 99, x.ofPerson(0, 8));
        x.measure(0, 5, 0, 20);
        x.measure(0, 4, 0, 20);
        Checks.due("doubt of 436", 72, x.ofPerson(0, 8));
    }

    /** Figures 0 to 2 have the head of person 0: shown, on tour, in the store; figure 3 is shown, of person 1. */
    private static Waxrow houseOfTwoPersons() {
        Waxrow x = Checks.houseThatShows(500, 0);
        Checks.measuredPerson(x, 400, 50, 0);
        Checks.doneFigure(x, 0);
        Checks.doneFigure(x, 0);
        Checks.doneFigure(x, 1);
        x.tour(1, 1, 2);
        x.show(3, x.room(0, 1));
        return x;
    }

    private static void consentWithdrawnTakesShownOnesAlone() {
        Waxrow x = houseOfTwoPersons();
        Checks.due("one goes out", 1, x.consent(0, false));
        int[] places = {5, 6, 5, 1};
        for (int figure = 0; figure < places.length; figure++) {
            Checks.due("place of " + figure, places[figure], x.ofFigure(figure, 8));
        }
        Checks.due("nobody of person 0 is shown", -1, x.ofPerson(0, 10));
        Checks.due("days of the tour", 2, x.ofFigure(1, 9));
        Checks.due("consent of the other", 1, x.ofPerson(1, 6));
        x.pass(2, 0, 0);
        Checks.due("back from the tour", 5, x.ofFigure(1, 8));
        Waxrow y = houseOfTwoPersons();
        y.take(0);
        Checks.due("none goes out of the store or from a tour", 0, y.consent(0, false));
    }

    private static Waxrow houseOfSwapped() {
        Waxrow x = new Waxrow();
        Checks.doneFigure(x, Checks.measuredPerson(x, 500, 50, 0));
        Checks.doneFigure(x, Checks.measuredPerson(x, 400, 50, 0));
        x.swap(0, 1);
        x.show(0, x.room(0, 1));
        return x;
    }

    private static void consentWithdrawnTakesHeadsNotBodies() {
        Waxrow body = houseOfSwapped();
        Checks.due("of the body", 0, body.consent(0, false));
        Checks.due("it stays", 0, body.ofFigure(0, 8));
        Checks.due("it is the head's that is shown", 0, body.ofPerson(1, 10));
        Checks.due("not the body's", -1, body.ofPerson(0, 10));
        Waxrow head = houseOfSwapped();
        Checks.due("of the head", 1, head.consent(1, false));
        Checks.due("it goes", 5, head.ofFigure(0, 8));
    }

    private static void consentGivenOrWithdrawnTwiceTakesNone() {
        Waxrow x = houseOfTwoPersons();
        Checks.due("given again", 0, x.consent(0, true));
        Checks.due("still shown", 0, x.ofPerson(0, 10));
        Checks.due("withdrawn", 1, x.consent(0, false));
        Checks.due("withdrawn again", 0, x.consent(0, false));
        Checks.due("given anew", 0, x.consent(0, true));
        Checks.due("none comes back", -1, x.ofPerson(0, 10));
    }

    private static void payTakesMoneyBelowZero() {
        Waxrow x = Checks.houseThatShows(500, 0);
        x.price(0);
        x.pass(1, 300, 0);
        for (int i = 0; i < 40; i++) {
            x.clean(0);
        }
        Checks.due("no money is left", 0, x.many(8));
        Checks.due("paid", 3, x.pay(0));
        Checks.due("money", -3, x.many(8));
        Checks.due("due", 0, x.ofPerson(0, 7));
    }

    private static void payOfNothingChangesNothing() {
        Waxrow x = Checks.houseThatShows(500, 0);
        x.pass(1, 100, 0);
        String before = Checks.stateOf(x);
        Checks.due("75 have touched it", 0, x.pay(0));
        Checks.due("state", before, Checks.stateOf(x));
    }
}
