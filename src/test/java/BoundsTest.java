/**
 * Promises 2 to 29: each argument just below, at and just above the bounds that the document names. What is refused
 * leaves the house as it was.
 */
public final class BoundsTest {
    public static void main(String[] args) {
        personTakesFame();
        trendTakesPersonLandAndTrend();
        newsTakePersonAndBy();
        consentTakesPerson();
        measureTakesPersonMeasureValueAndError();
        payTakesPerson();
        figureTakesPerson();
        workTakesFigureAndHands();
        swapTakesTwoFigures();
        mendTakesFigure();
        meltTakesFigure();
        tourTakesFigureLandAndDays();
        roomTakesLampsAndSpots();
        lampsTakeRoomAndLamps();
        showTakesFigureAndRoom();
        takeTakesFigure();
        cleanTakesRoom();
        priceTakesPrice();
        passTakesDaysVisitorsAndWarmth();
        ofPersonTakesPersonAndWhat();
        knownTakesPersonAndMeasure();
        ofFigureTakesFigureAndWhat();
        ofRoomTakesRoomAndWhat();
        manyTakesWhat();
        wouldFameTakesPersonLandAndMonths();
        readyInTakesFigure();
        meltsInTakesFigureVisitorsAndWarmth();
        Checks.finish();
    }

    /** Three persons, two rooms, and a frame of each person. */
    private static Waxrow houseOfFrames() {
        Waxrow x = new Waxrow();
        for (int person = 0; person < 3; person++) {
            Checks.measuredPerson(x, 500 + person, 40 + person, person);
            x.figure(person);
        }
        x.room(3, 2);
        x.room(6, 4);
        return x;
    }

    /** The same with the figures done and in the store. */
    private static Waxrow houseOfDone() {
        Waxrow x = houseOfFrames();
        for (int figure = 0; figure < 3; figure++) {
            x.work(figure, 9);
            x.pass(4, 0, 0);
        }
        return x;
    }

    /** The same with all three shown in room 1. */
    private static Waxrow houseOfShown() {
        Waxrow x = houseOfDone();
        for (int figure = 0; figure < 3; figure++) {
            x.show(figure, 1);
        }
        return x;
    }

    private static void arguments(String what, Checks.Maker house, int least, int most, Checks.CallWith call) {
        Checks.bounds(what, house, Checks.ARGUMENT, least, most, call);
    }

    private static void indexes(String what, Checks.Maker house, int last, Checks.CallWith call) {
        Checks.bounds(what, house, Checks.INDEX, 0, last, call);
    }

    private static void personTakesFame() {
        arguments("person here", BoundsTest::houseOfFrames, 0, 999, (x, fame) -> x.person(fame, 1, 1));
        arguments("person there", BoundsTest::houseOfFrames, 0, 999, (x, fame) -> x.person(1, fame, 1));
        arguments("person beyond", BoundsTest::houseOfFrames, 0, 999, (x, fame) -> x.person(1, 1, fame));
    }

    private static void trendTakesPersonLandAndTrend() {
        indexes("trend of person", BoundsTest::houseOfFrames, 2, (x, person) -> x.trend(person, 0, 1));
        indexes("trend in land", BoundsTest::houseOfFrames, 2, (x, land) -> x.trend(0, land, 1));
        arguments("trend", BoundsTest::houseOfFrames, -40, 40, (x, trend) -> x.trend(0, 0, trend));
    }

    private static void newsTakePersonAndBy() {
        indexes("news of person", BoundsTest::houseOfFrames, 2, (x, person) -> x.news(person, 1));
        arguments("news by", BoundsTest::houseOfFrames, -500, 500, (x, by) -> x.news(0, by));
    }

    private static void consentTakesPerson() {
        indexes("consent of person", BoundsTest::houseOfShown, 2, (x, person) -> x.consent(person, false));
        indexes("consent again of person", BoundsTest::houseOfShown, 2, (x, person) -> x.consent(person, true));
    }

    private static void measureTakesPersonMeasureValueAndError() {
        indexes("measure of person", BoundsTest::houseOfFrames, 2, (x, person) -> x.measure(person, 0, 9, 1));
        indexes("measure", BoundsTest::houseOfFrames, 5, (x, measure) -> x.measure(0, measure, 9, 1));
        arguments("measure value", BoundsTest::houseOfFrames, 0, 99, (x, value) -> x.measure(0, 0, value, 1));
        arguments("measure error", BoundsTest::houseOfFrames, 0, 20, (x, error) -> x.measure(0, 0, 9, error));
    }

    private static void payTakesPerson() {
        indexes("pay person", BoundsTest::houseOfFrames, 2, (x, person) -> x.pay(person));
    }

    private static void figureTakesPerson() {
        indexes("figure of person", BoundsTest::houseOfFrames, 2, (x, person) -> x.figure(person));
    }

    private static void workTakesFigureAndHands() {
        indexes("work on figure", BoundsTest::houseOfFrames, 2, (x, figure) -> x.work(figure, 1));
        arguments("work with hands", BoundsTest::houseOfFrames, 0, 9, (x, hands) -> x.work(1, hands));
    }

    private static void swapTakesTwoFigures() {
        indexes("swap one", BoundsTest::houseOfDone, 2, (x, one) -> x.swap(one, 1));
        indexes("swap other", BoundsTest::houseOfDone, 2, (x, other) -> x.swap(1, other));
    }

    private static void mendTakesFigure() {
        indexes("mend figure", BoundsTest::houseOfDone, 2, (x, figure) -> x.mend(figure));
    }

    private static void meltTakesFigure() {
        indexes("melt figure", BoundsTest::houseOfDone, 2, (x, figure) -> x.melt(figure));
    }

    private static void tourTakesFigureLandAndDays() {
        indexes("tour of figure", BoundsTest::houseOfDone, 2, (x, figure) -> x.tour(figure, 1, 1));
        arguments("tour to land", BoundsTest::houseOfDone, 1, 2, (x, land) -> x.tour(0, land, 1));
        arguments("tour for days", BoundsTest::houseOfDone, 1, 60, (x, days) -> x.tour(0, 1, days));
    }

    private static void roomTakesLampsAndSpots() {
        arguments("room with lamps", BoundsTest::houseOfFrames, 0, 9, (x, lamps) -> x.room(lamps, 1));
        arguments("room with spots", BoundsTest::houseOfFrames, 1, 4, (x, spots) -> x.room(0, spots));
    }

    private static void lampsTakeRoomAndLamps() {
        indexes("lamps of room", BoundsTest::houseOfFrames, 1, (x, room) -> x.lamps(room, 1));
        arguments("lamps", BoundsTest::houseOfFrames, 0, 9, (x, lamps) -> x.lamps(0, lamps));
    }

    private static void showTakesFigureAndRoom() {
        indexes("show figure", BoundsTest::houseOfDone, 2, (x, figure) -> x.show(figure, 0));
        indexes("show in room", BoundsTest::houseOfDone, 1, (x, room) -> x.show(0, room));
    }

    private static void takeTakesFigure() {
        indexes("take figure", BoundsTest::houseOfShown, 2, (x, figure) -> x.take(figure));
    }

    private static void cleanTakesRoom() {
        indexes("clean room", BoundsTest::houseOfShown, 1, (x, room) -> x.clean(room));
    }

    private static void priceTakesPrice() {
        arguments("price", BoundsTest::houseOfFrames, 0, 20, (x, price) -> x.price(price));
    }

    private static void passTakesDaysVisitorsAndWarmth() {
        arguments("pass days", BoundsTest::houseOfShown, 1, 40, (x, days) -> x.pass(days, 1, 1));
        arguments("pass with visitors", BoundsTest::houseOfShown, 0, 2000, (x, visitors) -> x.pass(1, visitors, 1));
        arguments("pass with warmth", BoundsTest::houseOfShown, 0, 40, (x, warmth) -> x.pass(1, 1, warmth));
    }

    private static void ofPersonTakesPersonAndWhat() {
        indexes("ofPerson person", BoundsTest::houseOfFrames, 2, (x, person) -> x.ofPerson(person, 0));
        arguments("ofPerson what", BoundsTest::houseOfFrames, 0, 10, (x, what) -> x.ofPerson(0, what));
    }

    private static void knownTakesPersonAndMeasure() {
        indexes("known of person", BoundsTest::houseOfFrames, 2, (x, person) -> x.known(person, 0, true));
        indexes("known measure", BoundsTest::houseOfFrames, 5, (x, measure) -> x.known(0, measure, false));
    }

    private static void ofFigureTakesFigureAndWhat() {
        indexes("ofFigure figure", BoundsTest::houseOfShown, 2, (x, figure) -> x.ofFigure(figure, 0));
        arguments("ofFigure what", BoundsTest::houseOfShown, 0, 11, (x, what) -> x.ofFigure(0, what));
    }

    private static void ofRoomTakesRoomAndWhat() {
        indexes("ofRoom room", BoundsTest::houseOfShown, 1, (x, room) -> x.ofRoom(room, 0));
        arguments("ofRoom what", BoundsTest::houseOfShown, 0, 3, (x, what) -> x.ofRoom(0, what));
    }

    private static void manyTakesWhat() {
        arguments("many what", BoundsTest::houseOfShown, 0, 14, (x, what) -> x.many(what));
    }

    private static void wouldFameTakesPersonLandAndMonths() {
        indexes("wouldFame of person", BoundsTest::houseOfFrames, 2, (x, person) -> x.wouldFame(person, 0, 1));
        indexes("wouldFame in land", BoundsTest::houseOfFrames, 2, (x, land) -> x.wouldFame(0, land, 1));
        arguments("wouldFame months", BoundsTest::houseOfFrames, 0, 60, (x, months) -> x.wouldFame(0, 0, months));
    }

    private static void readyInTakesFigure() {
        indexes("readyIn figure", BoundsTest::houseOfFrames, 2, (x, figure) -> x.readyIn(figure));
    }

    private static void meltsInTakesFigureVisitorsAndWarmth() {
        indexes("meltsIn figure", BoundsTest::houseOfShown, 2, (x, figure) -> x.meltsIn(figure, 1, 1));
        arguments("meltsIn visitors", BoundsTest::houseOfShown, 0, 2000, (x, visitors) -> x.meltsIn(0, visitors, 1));
        arguments("meltsIn warmth", BoundsTest::houseOfShown, 0, 40, (x, warmth) -> x.meltsIn(0, 1, warmth));
        // Where no figure is shown, nothing is tried; the bounds hold all the same.
        arguments("meltsIn visitors, not shown", BoundsTest::houseOfFrames, 0, 2000, (x, v) -> x.meltsIn(0, v, 1));
        arguments("meltsIn warmth, not shown", BoundsTest::houseOfFrames, 0, 40, (x, w) -> x.meltsIn(0, 1, w));
    }
}
