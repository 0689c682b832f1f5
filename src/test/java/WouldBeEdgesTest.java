/** Promises 27 to 31: a test for each sentence that names an edge. */
public final class WouldBeEdgesTest {
    public static void main(String[] args) {
        fameBehindNoMonthsIsThatOfNow();
        fameBehindMonthsAddsTrendsThatShrink();
        fameBehindMonthsIsHeld();
        fameBehindMonthsDoesNotLookAtTheDay();
        readyInIsZeroWhenDone();
        readyInIsNoneWithoutHands();
        readyInIsNoneWhenMelted();
        readyInCountsTheLastDayWhole();
        readyInIsWhatHappens();
        meltsInOneDay();
        meltsInSixtyDaysAtMost();
        meltsInIsNoneWhenMelted();
        meltsInIsNoneWhereNothingWears();
        meltsInIsNoneOnTourAndInTheStore();
        meltsInTakesMonths();
        meltsInTakesOthersThatMelt();
        meltsInTakesThePrice();
        meltsInTakesTheLamps();
        bestNextNeedsConsent();
        bestNextIsNoneWithoutOne();
        bestNextLeavesOutHeadsOfEachPlace();
        bestNextTakesMeltedHeads();
        bestNextTakesTheGreatestFame();
        bestNextTakesFameBehindSixMonths();
        bestNextTakesFameOfTheFirstLand();
        bestNextTakesTheLeastDoubtThen();
        bestNextTakesTheSmallestNumberLast();
        bestNextTakesOneWithoutFame();
        digestOfEachStateIsTheFold();
        digestIsTheSameWhenAskedAgain();
        Checks.finish();
    }

    private static Waxrow houseWithTrend(int fame, int trend) {
        Waxrow x = new Waxrow();
        x.person(fame, fame, fame);
        for (int land = 0; land < 3; land++) {
            x.trend(0, land, trend);
        }
        return x;
    }

    private static void fameBehindNoMonthsIsThatOfNow() {
        Checks.due("rising", 500, houseWithTrend(500, 40).wouldFame(0, 0, 0));
        Checks.due("falling", 500, houseWithTrend(500, -40).wouldFame(0, 2, 0));
        Checks.due("at 999", 999, houseWithTrend(999, 40).wouldFame(0, 1, 0));
        Checks.due("at 0", 0, houseWithTrend(0, -40).wouldFame(0, 0, 0));
    }

    private static void fameBehindMonthsAddsTrendsThatShrink() {
        Waxrow x = houseWithTrend(100, 40);
        int[] months = {1, 2, 38, 39, 40, 41, 60};
        int[] fame = {140, 179, 917, 919, 920, 920, 920};
        for (int i = 0; i < months.length; i++) {
            Checks.due("behind " + months[i], fame[i], x.wouldFame(0, 0, months[i]));
        }
        Waxrow y = houseWithTrend(900, -40);
        int[] falling = {860, 821, 83, 81, 80, 80, 80};
        for (int i = 0; i < months.length; i++) {
            Checks.due("falling behind " + months[i], falling[i], y.wouldFame(0, 2, months[i]));
        }
        Checks.due("without a trend", 7, houseWithTrend(7, 0).wouldFame(0, 1, 60));
    }

    private static void fameBehindMonthsIsHeld() {
        Checks.due("just below 999", 998, houseWithTrend(995, 2).wouldFame(0, 0, 60));
        Checks.due("at 999", 999, houseWithTrend(996, 2).wouldFame(0, 0, 60));
        Checks.due("just above 999", 999, houseWithTrend(997, 2).wouldFame(0, 0, 60));
        Checks.due("just above 0", 1, houseWithTrend(4, -2).wouldFame(0, 0, 60));
        Checks.due("at 0", 0, houseWithTrend(3, -2).wouldFame(0, 0, 60));
        Checks.due("just below 0", 0, houseWithTrend(2, -2).wouldFame(0, 0, 60));
    }

    private static void fameBehindMonthsDoesNotLookAtTheDay() {
        Waxrow x = houseWithTrend(500, 10);
        Checks.passQuietly(x, 29);
        Checks.due("a day ahead of a month", 510, x.wouldFame(0, 0, 1));
        x.pass(1, 0, 0);
        Checks.due("a month later", 510, x.ofPerson(0, 0));
        Checks.due("the next month", 519, x.wouldFame(0, 0, 1));
    }

    private static Waxrow houseOfFrame(int hands) {
        Waxrow x = new Waxrow();
        Checks.measuredPerson(x, 500, 50, 0);
        x.figure(0);
        x.work(0, hands);
        return x;
    }

    private static void readyInIsZeroWhenDone() {
        Waxrow x = houseOfFrame(9);
        x.pass(3, 0, 0);
        Checks.due("a day ahead", 1, x.readyIn(0));
        x.pass(1, 0, 0);
        Checks.due("in the store", 0, x.readyIn(0));
        x.show(0, x.room(0, 1));
        Checks.due("shown", 0, x.readyIn(0));
        x.take(0);
        x.tour(0, 1, 1);
        Checks.due("on tour", 0, x.readyIn(0));
    }

    private static void readyInIsNoneWithoutHands() {
        Checks.due("none ever", -1, houseOfFrame(0).readyIn(0));
        Waxrow x = houseOfFrame(1);
        Checks.passQuietly(x, 35);
        Checks.due("with one", 1, x.readyIn(0));
        x.work(0, 0);
        Checks.due("none any more, a day ahead", -1, x.readyIn(0));
    }

    private static void readyInIsNoneWhenMelted() {
        Waxrow frame = houseOfFrame(9);
        frame.melt(0);
        Checks.due("a frame with hands", -1, frame.readyIn(0));
        Waxrow done = houseOfFrame(9);
        done.pass(4, 0, 0);
        done.melt(0);
        Checks.due("one that was done", -1, done.readyIn(0));
        Waxrow worn = Checks.houseThatShows(500, 9);
        worn.pass(40, 0, 0);
        Checks.due("by wear", 7, worn.ofFigure(0, 8));
        Checks.due("melted by wear", -1, worn.readyIn(0));
    }

    private static void readyInCountsTheLastDayWhole() {
        Waxrow x = houseOfFrame(1);
        Checks.passQuietly(x, 18);
        // 18 of work are left.
        int[] days = {18, 9, 6, 5, 4, 3, 3, 3, 2};
        for (int hands = 1; hands <= 9; hands++) {
            x.work(0, hands);
            Checks.due("with " + hands, days[hands - 1], x.readyIn(0));
        }
        x.work(0, 1);
        x.pass(1, 0, 0);
        x.work(0, 9);
        Checks.due("17 with 9", 2, x.readyIn(0));
        x.work(0, 8);
        Checks.due("17 with 8", 3, x.readyIn(0));
    }

    private static void readyInIsWhatHappens() {
        for (int hands = 1; hands <= 9; hands++) {
            for (int before = 0; before < 4; before++) {
                Waxrow x = houseOfFrame(2);
                if (before > 0) {
                    x.pass(before * 5, 0, 0);
                }
                x.work(0, hands);
                int days = x.readyIn(0);
                if (days > 1) {
                    Checks.due("not yet", 0, x.pass(days - 1, 0, 0));
                }
                Checks.due("one day is left", 1, x.readyIn(0));
                Checks.due("done", 1, x.pass(1, 0, 0));
            }
        }
    }

    /** One that is shown with this wear, alone, in a room with 3 lamps: one a day without visitors. */
    private static Waxrow houseWithWorn(int wear) {
        Waxrow x = Checks.houseThatShows(500, 3);
        x.price(0);
        Checks.passQuietly(x, wear);
        return x;
    }

    private static void meltsInOneDay() {
        Checks.due("just at 100", 1, houseWithWorn(99).meltsIn(0, 0, 0));
        Checks.due("just above", 1, houseWithWorn(99).meltsIn(0, 50, 0));
        Checks.due("a day more", 2, houseWithWorn(98).meltsIn(0, 0, 0));
        Checks.due("from 98, with visitors", 1, houseWithWorn(98).meltsIn(0, 50, 0));
        Checks.due("with too few", 2, houseWithWorn(98).meltsIn(0, 49, 0));
    }

    private static void meltsInSixtyDaysAtMost() {
        Checks.due("59 days", 59, houseWithWorn(41).meltsIn(0, 0, 0));
        Checks.due("60 days", 60, houseWithWorn(40).meltsIn(0, 0, 0));
        Checks.due("61 days", -1, houseWithWorn(39).meltsIn(0, 0, 0));
        Waxrow x = houseWithWorn(40);
        Checks.due("none in 40 of them", 0, x.pass(40, 0, 0));
        Checks.due("none in 19 more", 0, x.pass(19, 0, 0));
        Checks.due("on the last", 1, x.pass(1, 0, 0));
    }

    private static void meltsInIsNoneWhenMelted() {
        Waxrow x = houseWithWorn(99);
        x.pass(1, 0, 0);
        Checks.due("by wear", -1, x.meltsIn(0, 2000, 40));
        Waxrow y = houseWithWorn(99);
        y.take(0);
        y.melt(0);
        Checks.due("by hand", -1, y.meltsIn(0, 2000, 40));
    }

    private static void meltsInIsNoneWhereNothingWears() {
        Waxrow x = houseWithWorn(99);
        x.lamps(0, 0);
        Checks.due("no lamps, no visitors", -1, x.meltsIn(0, 0, 40));
        Checks.due("no lamps, few visitors", -1, x.meltsIn(0, 49, 40));
        x.lamps(0, 2);
        Checks.due("two lamps", -1, x.meltsIn(0, 0, 25));
        Checks.due("two lamps in 29", -1, x.meltsIn(0, 0, 29));
        Checks.due("two lamps in 30", 1, x.meltsIn(0, 0, 30));
    }

    private static void meltsInIsNoneOnTourAndInTheStore() {
        Waxrow x = houseWithWorn(99);
        x.take(0);
        Checks.due("in the store", -1, x.meltsIn(0, 2000, 40));
        x.tour(0, 1, 60);
        Checks.due("on tour", -1, x.meltsIn(0, 2000, 40));
        Checks.due("in work", -1, houseOfFrame(9).meltsIn(0, 2000, 40));
    }

    /** Figures 0 and 1 of two persons with these fames are shown in a room without lamps. */
    private static Waxrow houseOfTwo(int first, int second) {
        Waxrow x = new Waxrow();
        x.price(0);
        x.room(0, 2);
        Checks.doneFigure(x, Checks.measuredPerson(x, first, 50, 0));
        Checks.doneFigure(x, Checks.measuredPerson(x, second, 50, 0));
        x.show(0, 0);
        x.show(1, 0);
        return x;
    }

    private static void meltsInTakesMonths() {
        // The day is 8; from the day 30 on the first one has no fame, and all touch the second one.
        Waxrow x = houseOfTwo(40, 40);
        Checks.due("both alike", 50, x.meltsIn(1, 200, 0));
        x.trend(0, 0, -40);
        Checks.due("21 days of 2, then 4 a day", 36, x.meltsIn(1, 200, 0));
        Checks.due("21 days of 2, then none", -1, x.meltsIn(0, 200, 0));
        Checks.due("fame stays", 40, x.ofPerson(0, 0));
        Checks.due("trend stays", -40, x.ofPerson(0, 3));
        Checks.due("day stays", 8, x.many(0));
    }

    private static void meltsInTakesOthersThatMelt() {
        Waxrow x = houseOfTwo(500, 500);
        x.take(0);
        Checks.wearOnTour(x, 0, 90);
        x.show(0, 0);
        // Two days of 7 for the first one, which melt it, and of 12 for the second; then 20 a day for the second.
        Checks.due("the first one", 2, x.meltsIn(0, 1000, 0));
        Checks.due("the second one", 6, x.meltsIn(1, 1000, 0));
        Checks.due("both alike", 10, houseOfTwo(500, 500).meltsIn(1, 1000, 0));
        Checks.due("none is melted by asking", 0, x.many(6));
    }

    private static void meltsInTakesThePrice() {
        Waxrow x = houseWithWorn(0);
        x.lamps(0, 0);
        Checks.due("all come", 5, x.meltsIn(0, 1000, 0));
        x.price(10);
        Checks.due("half of them", 10, x.meltsIn(0, 1000, 0));
        x.price(20);
        Checks.due("none", -1, x.meltsIn(0, 2000, 0));
        Checks.due("money stays", 200, x.many(8));
        Checks.due("none came", 0, x.many(11));
    }

    private static void meltsInTakesTheLamps() {
        Waxrow x = houseWithWorn(0);
        x.lamps(0, 9);
        Checks.due("three a day", 34, x.meltsIn(0, 0, 0));
        Checks.due("16 a day", 7, x.meltsIn(0, 0, 40));
        x.lamps(0, 6);
        Checks.due("two a day", 50, x.meltsIn(0, 0, 0));
    }

    private static void bestNextNeedsConsent() {
        Waxrow x = new Waxrow();
        x.person(999, 0, 0);
        x.person(0, 0, 0);
        Checks.due("nobody", -1, x.bestNext());
        x.consent(1, true);
        Checks.due("the one who gives it", 1, x.bestNext());
        x.consent(0, true);
        Checks.due("both", 0, x.bestNext());
        x.consent(0, false);
        x.consent(1, false);
        Checks.due("nobody any more", -1, x.bestNext());
    }

    private static void bestNextIsNoneWithoutOne() {
        Checks.due("without persons", -1, new Waxrow().bestNext());
        Checks.due("with a figure of the only one", -1, houseOfFrame(0).bestNext());
    }

    private static void bestNextLeavesOutHeadsOfEachPlace() {
        Waxrow x = houseOfFrame(9);
        Checks.due("in work", -1, x.bestNext());
        x.pass(4, 0, 0);
        Checks.due("in the store", -1, x.bestNext());
        x.show(0, x.room(0, 1));
        Checks.due("shown", -1, x.bestNext());
        x.take(0);
        x.tour(0, 1, 1);
        Checks.due("on tour", -1, x.bestNext());
    }

    private static void bestNextTakesMeltedHeads() {
        Waxrow x = houseOfFrame(9);
        x.melt(0);
        Checks.due("melted by hand", 0, x.bestNext());
        Waxrow y = houseWithWorn(99);
        Checks.due("a day ahead", -1, y.bestNext());
        y.pass(1, 0, 0);
        Checks.due("melted by wear", 0, y.bestNext());
        Waxrow z = houseOfFrame(0);
        z.figure(0);
        z.melt(0);
        Checks.due("one of two", -1, z.bestNext());
        z.melt(1);
        Checks.due("both", 0, z.bestNext());
    }

    /** Persons who give consent, with these fames in the land 0 and no fame elsewhere. */
    private static Waxrow houseOfPersons(int... fame) {
        Waxrow x = new Waxrow();
        for (int i = 0; i < fame.length; i++) {
            x.person(fame[i], 0, 0);
            x.consent(i, true);
        }
        return x;
    }

    private static void bestNextTakesTheGreatestFame() {
        Checks.due("the first", 0, houseOfPersons(501, 500, 500).bestNext());
        Checks.due("the second", 1, houseOfPersons(500, 501, 500).bestNext());
        Checks.due("the third", 2, houseOfPersons(500, 500, 501).bestNext());
        Checks.due("0 and 999", 1, houseOfPersons(0, 999).bestNext());
    }

    private static void bestNextTakesFameBehindSixMonths() {
        // A trend of 6 brings 6, 5, 4, 3, 2, 1: 20 in five months, 21 in six and in seven.
        Waxrow x = houseOfPersons(521, 500);
        x.trend(1, 0, 6);
        Checks.due("the same behind six months", 0, x.bestNext());
        x.news(1, 1);
        Checks.due("one more behind six months", 1, x.bestNext());
        // A trend of 7 brings 27 in six months and 28 in seven.
        Waxrow y = houseOfPersons(528, 500);
        y.trend(1, 0, 7);
        Checks.due("one less behind six months", 0, y.bestNext());
        Waxrow held = houseOfPersons(999, 960);
        held.trend(1, 0, 40);
        Checks.due("held to 999", 0, held.bestNext());
        held.measure(1, 0, 0, 0);
        Checks.due("held to 999, with less doubt", 1, held.bestNext());
    }

    private static void bestNextTakesFameOfTheFirstLand() {
        Waxrow x = new Waxrow();
        x.person(1, 999, 999);
        x.person(2, 0, 0);
        x.consent(0, true);
        x.consent(1, true);
        Checks.due("fame here", 1, x.bestNext());
        x.trend(0, 1, 40);
        x.trend(1, 2, -40);
        Checks.due("trends elsewhere do not matter", 1, x.bestNext());
    }

    private static void bestNextTakesTheLeastDoubtThen() {
        Waxrow x = houseOfPersons(500, 500, 500);
        x.measure(2, 0, 0, 20);
        Checks.due("the third", 2, x.bestNext());
        x.measure(1, 1, 0, 0);
        Checks.due("the second", 1, x.bestNext());
        x.measure(0, 2, 0, 0);
        x.measure(0, 3, 0, 20);
        Checks.due("the first", 0, x.bestNext());
        x.news(2, 1);
        Checks.due("fame goes first", 2, x.bestNext());
    }

    private static void bestNextTakesTheSmallestNumberLast() {
        Checks.due("of three", 0, houseOfPersons(500, 500, 500).bestNext());
        Checks.due("of two", 1, houseOfPersons(499, 500, 500).bestNext());
        Waxrow x = houseOfPersons(500, 500, 500);
        x.measure(1, 0, 50, 10);
        x.measure(2, 0, 50, 9);
        // 574 and 572 together: both doubts are 95, rounded down.
        Checks.due("doubts are the same", x.ofPerson(1, 8), x.ofPerson(2, 8));
        Checks.due("of two with the same doubt", 1, x.bestNext());
    }

    private static void bestNextTakesOneWithoutFame() {
        Checks.due("the only one", 0, houseOfPersons(0).bestNext());
        Waxrow x = houseOfPersons(0, 0);
        x.trend(1, 0, -40);
        Checks.due("held to 0", 0, x.bestNext());
        x.measure(1, 0, 0, 0);
        Checks.due("held to 0, with less doubt", 1, x.bestNext());
    }

    private static void digestOfEachStateIsTheFold() {
        Waxrow[] houses = {
            new Waxrow(), houseWithTrend(500, -7), houseOfFrame(7), houseWithWorn(0), houseWithWorn(61),
            houseOfTwo(300, 200), houseOfPersons(1, 2, 3),
        };
        for (int i = 0; i < houses.length; i++) {
            Checks.due("digest of house " + i, WouldBeTest.foldOf(houses[i]), houses[i].digest());
        }
        Waxrow withRooms = new Waxrow();
        withRooms.room(7, 3);
        withRooms.room(0, 1);
        Checks.due("digest of rooms", WouldBeTest.foldOf(withRooms), withRooms.digest());
    }

    private static void digestIsTheSameWhenAskedAgain() {
        Waxrow x = houseOfTwo(300, 200);
        long first = x.digest();
        Checks.due("asked again", first, x.digest());
        x.price(19);
        long other = x.digest();
        Checks.due("another state has another one", 1, first == other ? 0 : 1);
        x.price(0);
        Checks.due("the first state again", first, x.digest());
    }
}
