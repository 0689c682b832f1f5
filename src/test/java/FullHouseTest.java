/** A house full of persons, figures and rooms: ten, eight and five of them, and all hands at work. */
public final class FullHouseTest {
    public static void main(String[] args) {
        tenPersonsAreTheMost();
        eightFiguresAreTheMostEver();
        fiveRoomsAreTheMost();
        lastPersonIsLikeTheOthers();
        lastFigureIsLikeTheOthers();
        lastRoomIsLikeTheOthers();
        allFiguresAreShownAtOnce();
        roomOfFourSpotsTakesFour();
        roomOfOneSpotTakesOne();
        takenSpotIsFreeAgain();
        allFiguresShareTheTouches();
        allFiguresMeltOnOneDay();
        allFiguresGoOnTour();
        allHandsAreTwelve();
        allFiguresAreDoneOnOneDay();
        allPersonsHaveFigures();
        bestOfTenPersons();
        meanOfEight();
        fullHouseHasItsDigest();
        Checks.finish();
    }

    /** Ten persons, of whom the first eight have a figure that is done; rooms with 3 lamps and 4 spots. */
    private static Waxrow fullHouse() {
        Waxrow x = new Waxrow();
        for (int person = 0; person < 10; person++) {
            Checks.measuredPerson(x, 100 + person, 50, 0);
        }
        for (int figure = 0; figure < 8; figure++) {
            Checks.doneFigure(x, figure);
        }
        for (int room = 0; room < 5; room++) {
            x.room(3, 4);
        }
        return x;
    }

    /** The same with all figures shown: four in room 0, one in each of the others. */
    private static Waxrow houseThatShowsAll() {
        Waxrow x = fullHouse();
        for (int figure = 0; figure < 8; figure++) {
            x.show(figure, figure < 4 ? 0 : figure - 3);
        }
        return x;
    }

    private static void tenPersonsAreTheMost() {
        Waxrow x = new Waxrow();
        for (int i = 0; i < 10; i++) {
            Checks.due("number", i, x.person(i, 0, 0));
        }
        Checks.refused("an eleventh person", FullHouseTest::fullHouse, Checks.STATE, h -> h.person(0, 0, 0));
        Checks.refused("person 10", FullHouseTest::fullHouse, Checks.INDEX, h -> h.ofPerson(10, 0));
        Checks.due("ten", 10, x.many(1));
    }

    private static void eightFiguresAreTheMostEver() {
        Waxrow x = new Waxrow();
        x.person(0, 0, 0);
        for (int i = 0; i < 8; i++) {
            Checks.due("number", i, x.figure(0));
        }
        Checks.refused("a ninth figure", FullHouseTest::fullHouse, Checks.STATE, h -> h.figure(9));
        Checks.refused("figure 8", FullHouseTest::fullHouse, Checks.INDEX, h -> h.ofFigure(8, 0));
        Checks.refused("a ninth behind eight melted ones", FullHouseTest::houseOfMelted, Checks.STATE,
                h -> h.figure(9));
        Checks.due("melted ones are counted", 8, houseOfMelted().many(2));
    }

    private static Waxrow houseOfMelted() {
        Waxrow x = fullHouse();
        for (int i = 0; i < 8; i++) {
            Checks.due("wax", 50 + 20 * i, x.melt(i));
        }
        return x;
    }

    private static void fiveRoomsAreTheMost() {
        Waxrow x = new Waxrow();
        for (int i = 0; i < 5; i++) {
            Checks.due("number", i, x.room(0, 1));
        }
        Checks.refused("a sixth room", FullHouseTest::fullHouse, Checks.STATE, h -> h.room(0, 1));
        Checks.refused("room 5", FullHouseTest::fullHouse, Checks.INDEX, h -> h.ofRoom(5, 0));
        Checks.due("five", 5, x.many(7));
    }

    private static void lastPersonIsLikeTheOthers() {
        Waxrow x = fullHouse();
        Checks.due("trend before", 0, x.trend(9, 2, -40));
        Checks.due("news", 609, x.news(9, 500));
        Checks.due("beyond", 609, x.ofPerson(9, 2));
        x.pass(30, 0, 0);
        Checks.due("a month", 569, x.ofPerson(9, 2));
        Checks.due("measured", 1, x.measure(9, 5, 99, 1));
        Checks.due("a clash", 1, x.ofPerson(9, 9));
        Checks.due("low", 98, x.known(9, 5, false));
        Checks.due("would be", 530, x.wouldFame(9, 2, 1));
        Checks.due("the person before is as before", 108, x.ofPerson(8, 2));
    }

    private static void lastFigureIsLikeTheOthers() {
        Waxrow x = fullHouse();
        Checks.due("head", 7, x.ofFigure(7, 0));
        Checks.due("step", 6, x.ofFigure(7, 2));
        Checks.due("shown", 107, x.show(7, 0));
        Checks.due("which", 7, x.ofPerson(7, 10));
        x.pass(1, 100, 0);
        Checks.due("touched", 75, x.ofFigure(7, 11));
        Checks.due("worn", 2, x.ofFigure(7, 6));
        Checks.due("melts", 33, x.meltsIn(7, 134, 0));
        Checks.due("taken", 0, x.take(7));
        Checks.due("swapped", 99, x.swap(7, 0));
        Checks.due("other head", 0, x.ofFigure(7, 0));
        Checks.due("melted", 50, x.melt(7));
    }

    private static void lastRoomIsLikeTheOthers() {
        Waxrow x = fullHouse();
        Checks.due("lamps before", 3, x.lamps(4, 9));
        Checks.due("shown", 100, x.show(0, 4));
        Checks.due("where", 4, x.ofFigure(0, 8));
        Checks.due("free spots", 3, x.ofRoom(4, 2));
        Checks.due("draws", 100, x.ofRoom(4, 3));
        x.pass(3, 0, 40);
        Checks.due("worn by its own lamps", 48, x.ofFigure(0, 6));
        Checks.due("cleaned", 195, x.clean(4));
        Checks.due("worn less", 42, x.ofFigure(0, 6));
        Checks.due("one is shown", 1, x.many(4));
        Checks.due("all draws", 79, x.many(14));
        Checks.due("its room", 4, x.take(0));
    }

    private static void allFiguresAreShownAtOnce() {
        Waxrow x = houseThatShowsAll();
        Checks.due("shown", 8, x.many(4));
        Checks.due("done", 8, x.many(3));
        Checks.due("all draws", 828, x.many(14));
        Checks.due("no spot in room 0", 0, x.ofRoom(0, 2));
        Checks.due("draws in room 0", 406, x.ofRoom(0, 3));
        for (int room = 1; room < 5; room++) {
            Checks.due("spots in room " + room, 3, x.ofRoom(room, 2));
            Checks.due("draws in room " + room, 103 + room, x.ofRoom(room, 3));
        }
    }

    private static void roomOfFourSpotsTakesFour() {
        Waxrow x = fullHouse();
        for (int i = 0; i < 4; i++) {
            Checks.due("free ahead of it", 4 - i, x.ofRoom(2, 2));
            Checks.due("draw", 100 + i, x.show(i, 2));
        }
        Checks.due("full", 0, x.ofRoom(2, 2));
        Checks.refused("a fifth", FullHouseTest::houseThatShowsFour, Checks.STATE, h -> h.show(4, 0));
        Checks.accepted("it in another room", FullHouseTest::houseThatShowsFour, h -> h.show(4, 1));
    }

    private static Waxrow houseThatShowsFour() {
        Waxrow x = fullHouse();
        for (int i = 0; i < 4; i++) {
            x.show(i, 0);
        }
        return x;
    }

    private static Waxrow houseWithOneSpot() {
        Waxrow x = new Waxrow();
        Checks.doneFigure(x, Checks.measuredPerson(x, 300, 50, 0));
        Checks.doneFigure(x, Checks.measuredPerson(x, 400, 50, 0));
        x.room(0, 1);
        x.show(0, 0);
        return x;
    }

    private static void roomOfOneSpotTakesOne() {
        Checks.due("full", 0, houseWithOneSpot().ofRoom(0, 2));
        Checks.refused("a second", FullHouseTest::houseWithOneSpot, Checks.STATE, h -> h.show(1, 0));
    }

    private static void takenSpotIsFreeAgain() {
        Waxrow taken = houseWithOneSpot();
        taken.take(0);
        Checks.due("behind one that was taken", 400, taken.show(1, 0));
        Waxrow withdrawn = houseWithOneSpot();
        withdrawn.consent(0, false);
        Checks.due("behind one whose person gives no consent", 400, withdrawn.show(1, 0));
        Waxrow melted = houseWithOneSpot();
        melted.lamps(0, 9);
        Checks.due("melted", 1, melted.pass(7, 0, 40));
        Checks.due("behind one that is melted", 400, melted.show(1, 0));
    }

    private static void allFiguresShareTheTouches() {
        Waxrow x = houseThatShowsAll();
        x.price(0);
        x.pass(1, 828, 0);
        for (int i = 0; i < 8; i++) {
            Checks.due("touched", 100 + i, x.ofFigure(i, 11));
            Checks.due("due", 1, x.ofPerson(i, 7));
            Checks.due("worn", 3, x.ofFigure(i, 6));
        }
        Checks.due("all due", 8, x.many(10));
        x.pass(1, 827, 0);
        // The wear is 3 for each, so the draws are 99 hundredths of what they were, rounded down.
        Checks.due("each part is rounded down", 200, x.ofFigure(0, 11));
    }

    private static void allFiguresMeltOnOneDay() {
        Waxrow x = houseThatShowsAll();
        Checks.due("not yet", 0, x.pass(19, 0, 35));
        Checks.due("worn", 76, x.ofFigure(7, 6));
        Checks.due("in six days", 6, x.meltsIn(7, 0, 35));
        Checks.due("all eight", 8, x.pass(6, 0, 35));
        Checks.due("melted", 8, x.many(6));
        Checks.due("done", 0, x.many(3));
        Checks.due("shown", 0, x.many(4));
        Checks.due("no draws", 0, x.many(14));
        Checks.due("no wax of it", 30, x.many(9));
        Checks.due("all spots are free", 4, x.ofRoom(0, 2));
        Checks.due("nobody is shown", -1, x.ofPerson(7, 10));
    }

    private static void allFiguresGoOnTour() {
        Waxrow x = fullHouse();
        for (int i = 0; i < 8; i++) {
            Checks.due("likeness", 100, x.tour(i, 1 + i % 2, 1));
        }
        Checks.due("on tour", 8, x.many(5));
        x.pass(1, 0, 0);
        // Each brings 10 of money: fame 100 to 107 times 100, divided by 1000.
        Checks.due("money", 280, x.many(8));
        Checks.due("back", 0, x.many(5));
    }

    private static Waxrow houseOfFrames() {
        Waxrow x = new Waxrow();
        x.person(500, 500, 500);
        for (int i = 0; i < 8; i++) {
            x.figure(0);
        }
        return x;
    }

    private static Waxrow houseOfTwelveHands() {
        Waxrow x = houseOfFrames();
        for (int i = 0; i < 4; i++) {
            Checks.due("all hands", 2 + i * 2, x.work(i, 2));
        }
        for (int i = 4; i < 8; i++) {
            Checks.due("all hands", 9 + i - 4, x.work(i, 1));
        }
        return x;
    }

    private static void allHandsAreTwelve() {
        Checks.due("all hands", 12, houseOfTwelveHands().many(12));
        for (int i = 0; i < 8; i++) {
            int figure = i;
            int hands = i < 4 ? 2 : 1;
            Checks.refused("one more for " + i, FullHouseTest::houseOfTwelveHands, Checks.STATE,
                    h -> h.work(figure, hands + 1));
            Checks.accepted("as many for " + i, FullHouseTest::houseOfTwelveHands, h -> h.work(figure, hands));
        }
    }

    private static void allFiguresAreDoneOnOneDay() {
        Waxrow x = houseOfFrames();
        for (int i = 0; i < 8; i++) {
            x.work(i, 1);
        }
        Checks.due("not yet", 0, x.pass(35, 0, 0));
        Checks.due("all eight", 8, x.pass(1, 0, 0));
        Checks.due("done", 8, x.many(3));
        Checks.due("no hands", 0, x.many(12));
    }

    private static void allPersonsHaveFigures() {
        Waxrow x = new Waxrow();
        for (int i = 0; i < 8; i++) {
            x.figure(Checks.measuredPerson(x, 999 - i, 50, 0));
        }
        Checks.due("nobody is left", -1, x.bestNext());
        x.melt(7);
        Checks.due("the one of the melted figure", 7, x.bestNext());
    }

    private static void bestOfTenPersons() {
        Waxrow x = fullHouse();
        Checks.due("the last one", 9, x.bestNext());
        x.news(9, -2);
        Checks.due("the last but one", 8, x.bestNext());
        x.melt(0);
        Checks.due("still", 8, x.bestNext());
        x.consent(8, false);
        Checks.due("the last one again", 9, x.bestNext());
        x.consent(9, false);
        Checks.due("the first one", 0, x.bestNext());
    }

    private static void meanOfEight() {
        Waxrow x = houseThatShowsAll();
        Checks.due("all alike", 100.0, x.meanLikeness());
        x.lamps(4, 6);
        x.pass(1, 0, 0);
        // The wear of one is 2, of seven is 1.
        Checks.due("not cut", 99.875, x.meanLikeness());
    }

    private static void fullHouseHasItsDigest() {
        Waxrow x = houseThatShowsAll();
        Checks.due("digest", WouldBeTest.foldOf(x), x.digest());
        Waxrow frames = houseOfTwelveHands();
        Checks.due("digest of frames", WouldBeTest.foldOf(frames), frames.digest());
        Waxrow melted = houseOfMelted();
        Checks.due("digest of melted ones", WouldBeTest.foldOf(melted), melted.digest());
    }
}
