/** Section 5: if several exceptions apply, the one that is named first is thrown, and nothing is changed. */
public final class FirstNamedTest {
    public static void main(String[] args) {
        personNamesTheFameFirst();
        trendNamesTheIndexFirst();
        newsNameTheIndexFirst();
        measureNamesTheIndexFirst();
        figureNamesTheIndexFirst();
        workNamesIndexThenArgument();
        swapNamesIndexThenArgument();
        tourNamesIndexThenArgument();
        roomNamesTheArgumentFirst();
        lampsNameTheIndexFirst();
        showNamesTheIndexFirst();
        ofPersonNamesTheIndexFirst();
        ofFigureNamesTheIndexFirst();
        ofRoomNamesTheIndexFirst();
        wouldFameNamesTheIndexFirst();
        meltsInNamesTheIndexFirst();
        Checks.finish();
    }

    /** Figure 0 is shown in room 0, which is full; figure 1 is done, in the store; figure 2 has 3 hands, 3 none. */
    private static Waxrow house() {
        Waxrow x = Checks.houseThatShows(500, 3);
        Checks.doneFigure(x, Checks.measuredPerson(x, 400, 50, 3));
        x.work(x.figure(1), 3);
        x.figure(1);
        return x;
    }

    private static Waxrow fullHouse() {
        Waxrow x = house();
        while (x.many(1) < 10) {
            x.person(1, 2, 3);
        }
        while (x.many(2) < 8) {
            x.figure(1);
        }
        while (x.many(7) < 5) {
            x.room(1, 2);
        }
        return x;
    }

    private static void index(String what, Checks.CallOn call) {
        Checks.refused(what, FirstNamedTest::house, Checks.INDEX, call);
    }

    private static void argument(String what, Checks.CallOn call) {
        Checks.refused(what, FirstNamedTest::house, Checks.ARGUMENT, call);
    }

    private static void personNamesTheFameFirst() {
        Checks.refused("ten persons, here -1", FirstNamedTest::fullHouse, Checks.ARGUMENT, x -> x.person(-1, 0, 0));
        Checks.refused("ten persons, there 1000", FirstNamedTest::fullHouse, Checks.ARGUMENT,
                x -> x.person(0, 1000, 0));
        Checks.refused("ten persons, beyond 1000", FirstNamedTest::fullHouse, Checks.ARGUMENT,
                x -> x.person(0, 0, 1000));
        Checks.refused("ten persons alone", FirstNamedTest::fullHouse, Checks.STATE, x -> x.person(0, 0, 0));
    }

    private static void trendNamesTheIndexFirst() {
        index("trend, no person, no trend", x -> x.trend(2, 0, 41));
        index("trend, no land, no trend", x -> x.trend(0, 3, -41));
        index("trend, no person, no land, no trend", x -> x.trend(-1, -1, 41));
    }

    private static void newsNameTheIndexFirst() {
        index("news, no person, too much", x -> x.news(2, 501));
        index("news, no person, too little", x -> x.news(-1, -501));
    }

    private static void measureNamesTheIndexFirst() {
        index("measure, no person, no value", x -> x.measure(2, 0, 100, 0));
        index("measure, no person, no error", x -> x.measure(-1, 0, 0, 21));
        index("measure, no measure, no value", x -> x.measure(0, 6, -1, 0));
        index("measure, no measure, no error", x -> x.measure(0, -1, 0, -1));
        index("measure, nothing fits", x -> x.measure(2, 6, 100, 21));
    }

    private static void figureNamesTheIndexFirst() {
        Checks.refused("figure, no person, eight figures", FirstNamedTest::fullHouse, Checks.INDEX,
                x -> x.figure(10));
        Checks.refused("figure, eight figures", FirstNamedTest::fullHouse, Checks.STATE, x -> x.figure(9));
    }

    private static void workNamesIndexThenArgument() {
        index("work, no figure, no hands", x -> x.work(4, 10));
        index("work, no figure, too many in all", x -> x.work(-1, 10));
        argument("work, hands 10, too many in all", x -> x.work(3, 10));
        argument("work, hands 10, done", x -> x.work(1, 10));
        argument("work, hands -1, done", x -> x.work(1, -1));
        argument("work, hands -1, shown", x -> x.work(0, -1));
        Checks.refused("work, hands 10, melted", FirstNamedTest::houseWithMelted, Checks.ARGUMENT,
                x -> x.work(3, 10));
    }

    private static Waxrow houseWithMelted() {
        Waxrow x = house();
        x.melt(1);
        x.melt(3);
        return x;
    }

    private static void swapNamesIndexThenArgument() {
        index("swap, no such figure twice", x -> x.swap(4, 4));
        index("swap, -1 twice", x -> x.swap(-1, -1));
        index("swap, no first, second not done", x -> x.swap(4, 2));
        index("swap, first not done, no second", x -> x.swap(2, 4));
        index("swap, first shown, no second", x -> x.swap(0, -1));
        argument("swap, the same, not done", x -> x.swap(2, 2));
        argument("swap, the same, shown", x -> x.swap(0, 0));
        Checks.refused("swap, the same, melted", FirstNamedTest::houseWithMelted, Checks.ARGUMENT,
                x -> x.swap(1, 1));
    }

    private static void tourNamesIndexThenArgument() {
        index("tour, no figure, no land", x -> x.tour(4, 3, 1));
        index("tour, no figure, no days", x -> x.tour(-1, 1, 61));
        argument("tour, land 0, not done", x -> x.tour(2, 0, 1));
        argument("tour, land 3, shown", x -> x.tour(0, 3, 1));
        argument("tour, days 0, not done", x -> x.tour(2, 1, 0));
        argument("tour, days 61, shown", x -> x.tour(0, 2, 61));
        Checks.refused("tour, days 61, melted", FirstNamedTest::houseWithMelted, Checks.ARGUMENT,
                x -> x.tour(1, 1, 61));
        Checks.refused("tour, land 0, no consent", FirstNamedTest::houseWithoutConsent, Checks.ARGUMENT,
                x -> x.tour(1, 0, 1));
    }

    private static Waxrow houseWithoutConsent() {
        Waxrow x = house();
        x.consent(1, false);
        return x;
    }

    private static void roomNamesTheArgumentFirst() {
        Checks.refused("five rooms, lamps 10", FirstNamedTest::fullHouse, Checks.ARGUMENT, x -> x.room(10, 1));
        Checks.refused("five rooms, lamps -1", FirstNamedTest::fullHouse, Checks.ARGUMENT, x -> x.room(-1, 1));
        Checks.refused("five rooms, spots 0", FirstNamedTest::fullHouse, Checks.ARGUMENT, x -> x.room(0, 0));
        Checks.refused("five rooms, spots 5", FirstNamedTest::fullHouse, Checks.ARGUMENT, x -> x.room(0, 5));
        Checks.refused("five rooms alone", FirstNamedTest::fullHouse, Checks.STATE, x -> x.room(0, 1));
    }

    private static void lampsNameTheIndexFirst() {
        index("lamps, no room, lamps 10", x -> x.lamps(1, 10));
        index("lamps, room -1, lamps -1", x -> x.lamps(-1, -1));
    }

    private static void showNamesTheIndexFirst() {
        index("show, not done, no room", x -> x.show(2, 1));
        index("show, shown, room -1", x -> x.show(0, -1));
        index("show, no figure, full room", x -> x.show(4, 0));
        index("show, no figure, no room", x -> x.show(-1, 1));
        Checks.refused("show, no consent, no room", FirstNamedTest::houseWithoutConsent, Checks.INDEX,
                x -> x.show(1, 1));
    }

    private static void ofPersonNamesTheIndexFirst() {
        index("ofPerson 2 of 11", x -> x.ofPerson(2, 11));
        index("ofPerson -1 of -1", x -> x.ofPerson(-1, -1));
    }

    private static void ofFigureNamesTheIndexFirst() {
        index("ofFigure 4 of 12", x -> x.ofFigure(4, 12));
        index("ofFigure -1 of -1", x -> x.ofFigure(-1, -1));
    }

    private static void ofRoomNamesTheIndexFirst() {
        index("ofRoom 1 of 4", x -> x.ofRoom(1, 4));
        index("ofRoom -1 of -1", x -> x.ofRoom(-1, -1));
    }

    private static void wouldFameNamesTheIndexFirst() {
        index("wouldFame, no person, months 61", x -> x.wouldFame(2, 0, 61));
        index("wouldFame, person -1, months -1", x -> x.wouldFame(-1, 0, -1));
        index("wouldFame, no land, months 61", x -> x.wouldFame(0, 3, 61));
        index("wouldFame, land -1, months -1", x -> x.wouldFame(0, -1, -1));
    }

    private static void meltsInNamesTheIndexFirst() {
        index("meltsIn, no figure, visitors 2001", x -> x.meltsIn(4, 2001, 0));
        index("meltsIn, no figure, warmth 41", x -> x.meltsIn(4, 0, 41));
        index("meltsIn, figure -1, nothing fits", x -> x.meltsIn(-1, -1, -1));
    }
}
