/** A house without persons, figures or rooms: what each call answers there. */
public final class EmptyHouseTest {
    public static void main(String[] args) {
        newHouseAnswersManyOfNothing();
        withoutPersonsNoneIsFound();
        withoutFiguresNoneIsFound();
        withoutRoomsNoneIsFound();
        daysGoByInAnEmptyHouse();
        monthBeginsInAnEmptyHouse();
        priceIsToldInAnEmptyHouse();
        emptyHouseHasNoNextOne();
        emptyHouseHasNoMeanLikeness();
        emptyHouseHasItsDigest();
        personsWithoutFigures();
        roomsWithoutFigures();
        figuresWithoutRooms();
        wrongFirstCallsLeaveItEmpty();
        Checks.finish();
    }

    private static Waxrow houseOfPersons() {
        Waxrow x = new Waxrow();
        Checks.measuredPerson(x, 300, 50, 0);
        Checks.measuredPerson(x, 400, 50, 0);
        return x;
    }

    private static Waxrow houseOfRooms() {
        Waxrow x = new Waxrow();
        x.room(9, 4);
        x.room(0, 1);
        return x;
    }

    private static Waxrow houseOfFigures() {
        Waxrow x = houseOfPersons();
        Checks.doneFigure(x, 0);
        x.figure(1);
        return x;
    }

    private static void manyAre(String what, Waxrow x, int... many) {
        for (int i = 0; i < many.length; i++) {
            Checks.due(what + ", many(" + i + ")", many[i], x.many(i));
        }
    }

    private static void newHouseAnswersManyOfNothing() {
        manyAre("new", new Waxrow(), 0, 0, 0, 0, 0, 0, 0, 0, 200, 30, 0, 0, 0, 5, 0);
    }

    /** With rooms in the house, so that it is the persons that are missing. */
    private static void noPerson(String what, Checks.CallOn call) {
        Checks.refused(what + " without persons", Waxrow::new, Checks.INDEX, call);
        Checks.refused(what + " without persons, with rooms", EmptyHouseTest::houseOfRooms, Checks.INDEX, call);
    }

    private static void withoutPersonsNoneIsFound() {
        noPerson("trend", x -> x.trend(0, 0, 0));
        noPerson("news", x -> x.news(0, 0));
        noPerson("consent", x -> x.consent(0, true));
        noPerson("consent withdrawn", x -> x.consent(0, false));
        noPerson("measure", x -> x.measure(0, 0, 0, 0));
        noPerson("pay", x -> x.pay(0));
        noPerson("figure", x -> x.figure(0));
        noPerson("ofPerson", x -> x.ofPerson(0, 0));
        noPerson("known", x -> x.known(0, 0, true));
        noPerson("wouldFame", x -> x.wouldFame(0, 0, 0));
    }

    /** With persons in the house, too, so that it is the figures that are missing. */
    private static void noFigure(String what, Checks.CallOn call) {
        Checks.refused(what + " in a new house", Waxrow::new, Checks.INDEX, call);
        Checks.refused(what + " without figures", EmptyHouseTest::houseOfPersons, Checks.INDEX, call);
    }

    private static void withoutFiguresNoneIsFound() {
        noFigure("work", x -> x.work(0, 1));
        noFigure("swap", x -> x.swap(0, 1));
        noFigure("mend", x -> x.mend(0));
        noFigure("melt", x -> x.melt(0));
        noFigure("tour", x -> x.tour(0, 1, 1));
        noFigure("show", x -> x.show(0, 0));
        noFigure("take", x -> x.take(0));
        noFigure("ofFigure", x -> x.ofFigure(0, 0));
        noFigure("readyIn", x -> x.readyIn(0));
        noFigure("meltsIn", x -> x.meltsIn(0, 0, 0));
    }

    /** With figures in the house, too, so that it is the rooms that are missing. */
    private static void noRoom(String what, Checks.CallOn call) {
        Checks.refused(what + " in a new house", Waxrow::new, Checks.INDEX, call);
        Checks.refused(what + " without rooms", EmptyHouseTest::houseOfFigures, Checks.INDEX, call);
    }

    private static void withoutRoomsNoneIsFound() {
        noRoom("lamps", x -> x.lamps(0, 0));
        noRoom("clean", x -> x.clean(0));
        noRoom("show", x -> x.show(0, 0));
        noRoom("ofRoom", x -> x.ofRoom(0, 0));
    }

    private static void daysGoByInAnEmptyHouse() {
        Waxrow x = new Waxrow();
        Checks.due("nothing is done or melted", 0, x.pass(40, 2000, 40));
        // 1500 come on each of 40 days and pay 5.
        manyAre("behind 40 days", x, 40, 0, 0, 0, 0, 0, 0, 0, 300200, 30, 0, 60000, 0, 5, 0);
    }

    private static void monthBeginsInAnEmptyHouse() {
        Waxrow x = new Waxrow();
        Checks.due("day 30", 0, x.pass(30, 0, 0));
        manyAre("on day 30", x, 30, 0, 0, 0, 0, 0, 0, 0, 200, 30, 0, 0, 0, 5, 0);
    }

    private static void priceIsToldInAnEmptyHouse() {
        Waxrow x = new Waxrow();
        Checks.due("at first", 5, x.price(9));
        manyAre("with another price", x, 0, 0, 0, 0, 0, 0, 0, 0, 200, 30, 0, 0, 0, 9, 0);
    }

    private static void emptyHouseHasNoNextOne() {
        Checks.due("without persons", -1, new Waxrow().bestNext());
        Checks.due("with rooms alone", -1, houseOfRooms().bestNext());
    }

    private static void emptyHouseHasNoMeanLikeness() {
        Checks.due("without persons", 0.0, new Waxrow().meanLikeness());
        Checks.due("with rooms alone", 0.0, houseOfRooms().meanLikeness());
        Checks.due("with figures in the store alone", 0.0, houseOfFigures().meanLikeness());
    }

    private static void emptyHouseHasItsDigest() {
        long d = 58234;
        int[] numbers = {0, 0, 0, 0, 0, 0, 0, 0, 200, 30, 0, 0, 0, 5, 0, -1};
        for (int v : numbers) {
            d = d * 31 + v;
        }
        Checks.due("digest", d, new Waxrow().digest());
    }

    private static void personsWithoutFigures() {
        Waxrow x = houseOfPersons();
        Checks.due("no figure goes out", 0, x.consent(0, false));
        Checks.due("nothing is due", 0, x.pay(0));
        Checks.due("none is shown", -1, x.ofPerson(1, 10));
        Checks.due("the next one", 1, x.bestNext());
        Checks.due("a day", 0, x.pass(1, 100, 40));
        Checks.due("nothing is due behind it", 0, x.many(10));
        Checks.due("they come", 75, x.many(11));
    }

    private static void roomsWithoutFigures() {
        Waxrow x = houseOfRooms();
        Checks.due("all spots are free", 4, x.ofRoom(0, 2));
        Checks.due("the only spot is free", 1, x.ofRoom(1, 2));
        Checks.due("no draws", 0, x.ofRoom(0, 3));
        Checks.due("cleaning costs", 195, x.clean(0));
        Checks.due("lamps", 9, x.lamps(0, 8));
        Checks.due("a day", 0, x.pass(1, 100, 40));
        Checks.due("no draws behind it", 0, x.many(14));
    }

    private static void figuresWithoutRooms() {
        Waxrow x = houseOfFigures();
        Checks.due("none is shown", 0, x.many(4));
        Checks.due("a day", 0, x.pass(1, 2000, 40));
        Checks.due("none is touched", 0, x.ofFigure(0, 11));
        Checks.due("none is worn", 0, x.ofFigure(0, 6));
        Checks.due("none melts", -1, x.meltsIn(0, 2000, 40));
        Checks.refused("none can be taken", EmptyHouseTest::houseOfFigures, Checks.STATE, h -> h.take(0));
    }

    private static void wrongFirstCallsLeaveItEmpty() {
        Checks.refused("person", Waxrow::new, Checks.ARGUMENT, x -> x.person(0, 0, 1000));
        Checks.refused("room", Waxrow::new, Checks.ARGUMENT, x -> x.room(0, 0));
        Checks.refused("price", Waxrow::new, Checks.ARGUMENT, x -> x.price(21));
        Checks.refused("pass", Waxrow::new, Checks.ARGUMENT, x -> x.pass(0, 0, 0));
        Checks.refused("many", Waxrow::new, Checks.ARGUMENT, x -> x.many(15));
        Waxrow x = new Waxrow();
        Checks.refused("person", x, Checks.ARGUMENT, () -> x.person(0, 0, 1000));
        Checks.due("the first person has the number 0 all the same", 0, x.person(0, 0, 999));
        Checks.refused("room", x, Checks.ARGUMENT, () -> x.room(0, 5));
        Checks.due("the first room, too", 0, x.room(0, 4));
        Checks.refused("figure", x, Checks.INDEX, () -> x.figure(1));
        Checks.due("and the first figure", 0, x.figure(0));
    }
}
