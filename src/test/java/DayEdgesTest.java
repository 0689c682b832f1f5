/** Section 4 of the document, and promise 20: a test for each sentence that names an edge. */
public final class DayEdgesTest {
    public static void main(String[] args) {
        dayIsOneMore();
        passLetsOneToFortyDaysGoBy();
        passCountsOnlyItsOwnDays();
        passCountsThoseDoneAndThoseMelted();
        monthBeginsAheadOfTheDraws();
        monthBeginsAheadOfTheTours();
        visitorsAreDividedByAHundred();
        noneComeForTwenty();
        allComeForNothing();
        mostVisitorsOfAll();
        figureDoneThatDayIsNotShownYet();
        drawIsDividedByAHundred();
        partOfTheDrawsIsRoundedDown();
        noneTouchWithoutDraws();
        noneTouchWhatIsNotShown();
        drawsAreThoseAheadOfTheTouches();
        wearIsAFiftiethOfTheTouches();
        wearIsAThirdOfTheLamps();
        warmthWearsFromTwentySixOn();
        warmthTimesLampsIsDividedByTen();
        lampsOfItsOwnRoomWear();
        eachPartOfTheWearIsRoundedDown();
        wearIsAHundredAtMost();
        figureMeltsWithAHundred();
        meltedByWearLeavesNoWax();
        meltedByWearIsOutOfItsRoom();
        dueIsOneForEachWholeHundred();
        dueCountsEachDayForItself();
        dueCountsOnTheDayItMelts();
        dueIsThatOfTheHead();
        dueCountsWithoutMoney();
        tourMoneyIsDividedByAThousand();
        tourMoneyIsOfItsLandAndHead();
        tourMoneyIsAheadOfTheWear();
        tourWearsTwoADayTo99();
        tourEndsWithItsLastDay();
        tourOfSixtyDays();
        tourKnowsNoVisitorsAndNoWarmth();
        storeWearsNothing();
        Checks.finish();
    }

    private static void dayIsOneMore() {
        Waxrow x = new Waxrow();
        Checks.due("at first", 0, x.many(0));
        x.pass(1, 0, 0);
        Checks.due("behind one", 1, x.many(0));
        x.pass(40, 2000, 40);
        Checks.due("behind forty more", 41, x.many(0));
    }

    private static void passLetsOneToFortyDaysGoBy() {
        Checks.refused("no days", DayEdgesTest::house, Checks.ARGUMENT, x -> x.pass(0, 0, 0));
        Checks.refused("41 days", DayEdgesTest::house, Checks.ARGUMENT, x -> x.pass(41, 0, 0));
        Checks.refused("2001 visitors", DayEdgesTest::house, Checks.ARGUMENT, x -> x.pass(40, 2001, 40));
        Checks.refused("a warmth of 41", DayEdgesTest::house, Checks.ARGUMENT, x -> x.pass(40, 2000, 41));
        Waxrow once = house();
        once.pass(40, 77, 26);
        Waxrow often = house();
        for (int i = 0; i < 40; i++) {
            often.pass(1, 77, 26);
        }
        Checks.due("forty days are forty times one day", Checks.stateOf(often), Checks.stateOf(once));
    }

    /** Figure 0 with fame 500 is shown in room 0 with 3 lamps, figure 1 with fame 250 in room 1 with none. */
    private static Waxrow house() {
        Waxrow x = Checks.houseThatShows(500, 3);
        Checks.doneFigure(x, Checks.measuredPerson(x, 250, 50, 0));
        x.show(1, x.room(0, 1));
        x.clean(0);
        Checks.due("not worn", 0, x.ofFigure(0, 6));
        return x;
    }

    private static void passCountsOnlyItsOwnDays() {
        Waxrow x = new Waxrow();
        x.person(0, 0, 0);
        x.figure(0);
        x.work(0, 9);
        Checks.due("not yet", 0, x.pass(3, 0, 0));
        Checks.due("done", 1, x.pass(1, 0, 0));
        Checks.due("not again", 0, x.pass(40, 0, 0));
    }

    private static void passCountsThoseDoneAndThoseMelted() {
        Waxrow x = house();
        x.work(x.figure(0), 9);
        x.lamps(0, 9);
        // 16 a day are worn: figure 0 is melted on the seventh day, and figure 2 done on the fourth.
        Checks.due("one done", 1, x.pass(6, 0, 40));
        Checks.due("one melted", 1, x.pass(1, 0, 40));
        Waxrow y = house();
        y.work(y.figure(0), 9);
        y.lamps(0, 9);
        Checks.due("both in one call", 2, y.pass(7, 0, 40));
        Waxrow z = house();
        z.melt(z.figure(0));
        Checks.due("one melted by hand is not counted", 0, z.pass(1, 0, 0));
    }

    private static void monthBeginsAheadOfTheDraws() {
        Waxrow x = house();
        x.lamps(0, 0);
        x.price(0);
        x.trend(0, 0, -40);
        Checks.passQuietly(x, 21);
        Checks.due("day", 29, x.many(0));
        // 460 and 250 on the day 30.
        x.pass(1, 710, 0);
        Checks.due("first", 460, x.ofFigure(0, 11));
        Checks.due("second", 250, x.ofFigure(1, 11));
    }

    private static void monthBeginsAheadOfTheTours() {
        Waxrow x = new Waxrow();
        Checks.doneFigure(x, Checks.measuredPerson(x, 100, 50, 0));
        x.trend(0, 1, 40);
        Checks.passQuietly(x, 25);
        x.tour(0, 1, 1);
        x.pass(1, 0, 0);
        Checks.due("day", 30, x.many(0));
        Checks.due("money of the new fame", 214, x.many(8));
    }

    private static int comeOf(int visitors, int price) {
        Waxrow x = new Waxrow();
        x.price(price);
        x.pass(1, visitors, 0);
        Checks.due("money of " + visitors + " for " + price, 200 + price * x.many(11), x.many(8));
        return x.many(11);
    }

    private static void visitorsAreDividedByAHundred() {
        int[] visitors = {0, 1, 2, 3, 4, 5};
        int[] come = {0, 0, 1, 2, 3, 3};
        for (int i = 0; i < visitors.length; i++) {
            Checks.due("three fourths of " + visitors[i], come[i], comeOf(visitors[i], 5));
        }
        Checks.due("19 for 19", 0, comeOf(19, 19));
        Checks.due("20 for 19", 1, comeOf(20, 19));
        Checks.due("39 for 19", 1, comeOf(39, 19));
        Checks.due("1 for 1", 0, comeOf(1, 1));
        Checks.due("20 for 1", 19, comeOf(20, 1));
    }

    private static void noneComeForTwenty() {
        Checks.due("of 2000", 0, comeOf(2000, 20));
        Checks.due("of 0", 0, comeOf(0, 20));
        Waxrow x = house();
        x.price(20);
        x.pass(1, 2000, 0);
        Checks.due("nobody touches", 0, x.ofFigure(0, 11));
    }

    private static void allComeForNothing() {
        Checks.due("of 2000", 2000, comeOf(2000, 0));
        Checks.due("of 1", 1, comeOf(1, 0));
        Checks.due("of 0", 0, comeOf(0, 0));
    }

    private static void mostVisitorsOfAll() {
        Waxrow x = new Waxrow();
        x.price(10);
        for (int i = 0; i < 500; i++) {
            x.pass(40, 2000, 0);
        }
        Checks.due("come", 20000000, x.many(11));
        Checks.due("money", 200000200, x.many(8));
        Checks.due("day", 20000, x.many(0));
    }

    private static void figureDoneThatDayIsNotShownYet() {
        Waxrow x = Checks.houseThatShows(500, 0);
        x.work(x.figure(0), 9);
        x.pass(3, 0, 0);
        Checks.due("done", 1, x.pass(1, 2000, 40));
        Checks.due("place", 5, x.ofFigure(1, 8));
        Checks.due("touched", 0, x.ofFigure(1, 11));
        Checks.due("the other one is", 1500, x.ofFigure(0, 11));
    }

    private static void drawIsDividedByAHundred() {
        Waxrow x = Checks.houseThatShows(1, 3);
        Checks.due("with a likeness of 100", 1, x.ofFigure(0, 10));
        x.pass(1, 0, 0);
        Checks.due("with a wear of 1", 1, x.ofFigure(0, 10));
        x.pass(1, 0, 0);
        Checks.due("with a likeness of 99", 0, x.ofFigure(0, 10));
        Waxrow y = Checks.houseThatShows(999, 6);
        y.pass(1, 0, 0);
        Checks.due("999 times 99", 989, y.ofFigure(0, 10));
    }

    private static void partOfTheDrawsIsRoundedDown() {
        int[] visitors = {1, 2, 3, 4, 5, 6, 2000};
        int[] first = {0, 1, 2, 2, 3, 4, 1333};
        int[] second = {0, 0, 1, 1, 1, 2, 666};
        for (int i = 0; i < visitors.length; i++) {
            Waxrow x = house();
            x.price(0);
            x.pass(1, visitors[i], 0);
            Checks.due("two thirds of " + visitors[i], first[i], x.ofFigure(0, 11));
            Checks.due("a third of " + visitors[i], second[i], x.ofFigure(1, 11));
        }
    }

    private static void noneTouchWithoutDraws() {
        Waxrow x = Checks.houseThatShows(0, 0);
        x.price(0);
        Checks.due("draws", 0, x.many(14));
        Checks.due("a day", 0, x.pass(1, 2000, 40));
        Checks.due("touched", 0, x.ofFigure(0, 11));
        Checks.due("worn", 0, x.ofFigure(0, 6));
        Checks.due("due", 0, x.many(10));
        Checks.due("they come", 2000, x.many(11));
        Waxrow y = house();
        y.news(1, -250);
        y.price(0);
        y.pass(1, 2000, 0);
        Checks.due("one with a draw has all", 2000, y.ofFigure(0, 11));
        Checks.due("one without has none", 0, y.ofFigure(1, 11));
    }

    private static void noneTouchWhatIsNotShown() {
        Waxrow x = house();
        Checks.doneFigure(x, 1);
        x.tour(2, 1, 9);
        x.take(0);
        int before = x.ofFigure(0, 11);
        x.price(0);
        x.pass(1, 1000, 0);
        Checks.due("in the store", before, x.ofFigure(0, 11));
        Checks.due("on tour", 0, x.ofFigure(2, 11));
        Checks.due("shown", 1000, x.ofFigure(1, 11));
    }

    private static void drawsAreThoseAheadOfTheTouches() {
        // Figure 0 is melted by the day; figure 1 has its third of the touches all the same.
        Waxrow x = house();
        x.lamps(0, 9);
        x.price(0);
        x.pass(5, 0, 40);
        Checks.due("worn", 80, x.ofFigure(0, 6));
        Checks.due("draws", 550, x.many(14));
        Checks.due("melted", 1, x.pass(1, 550, 40));
        Checks.due("first", 300, x.ofFigure(0, 11));
        Checks.due("second", 250, x.ofFigure(1, 11));
        // The wear of the first one on that day does not change the part of the second.
        Waxrow y = house();
        y.lamps(0, 6);
        y.price(0);
        y.pass(1, 750, 0);
        Checks.due("second of two that are worn", 250, y.ofFigure(1, 11));
    }

    /** How worn one is that alone is touched so often, in a room with these lamps. */
    private static int wearOf(int touches, int lamps, int warmth) {
        Waxrow x = Checks.houseThatShows(500, lamps);
        x.price(0);
        x.pass(1, touches, warmth);
        Checks.due("touched", touches, x.ofFigure(0, 11));
        return x.ofFigure(0, 6);
    }

    private static void wearIsAFiftiethOfTheTouches() {
        int[] touches = {0, 1, 49, 50, 51, 99, 100, 1999, 2000};
        int[] wear = {0, 0, 0, 1, 1, 1, 2, 39, 40};
        for (int i = 0; i < touches.length; i++) {
            Checks.due("wear of " + touches[i], wear[i], wearOf(touches[i], 0, 0));
        }
    }

    private static void wearIsAThirdOfTheLamps() {
        int[] wear = {0, 0, 0, 1, 1, 1, 2, 2, 2, 3};
        for (int lamps = 0; lamps < wear.length; lamps++) {
            Checks.due("wear of " + lamps + " lamps", wear[lamps], wearOf(0, lamps, 0));
        }
    }

    private static void warmthWearsFromTwentySixOn() {
        int[] warmth = {0, 24, 25, 26, 27, 30, 39, 40};
        int[] wear = {3, 3, 3, 3, 4, 7, 15, 16};
        for (int i = 0; i < warmth.length; i++) {
            Checks.due("wear of 9 lamps in " + warmth[i], wear[i], wearOf(0, 9, warmth[i]));
        }
    }

    private static void warmthTimesLampsIsDividedByTen() {
        Checks.due("2 times 4", 1, wearOf(0, 4, 27));
        Checks.due("2 times 5", 2, wearOf(0, 5, 27));
        Checks.due("10 times 1", 1, wearOf(0, 1, 35));
        Checks.due("9 times 1", 0, wearOf(0, 1, 34));
        Checks.due("15 times 0", 0, wearOf(0, 0, 40));
        Checks.due("15 times 2", 3, wearOf(0, 2, 40));
        Checks.due("13 times 3", 4, wearOf(0, 3, 38));
        Checks.due("14 times 3", 5, wearOf(0, 3, 39));
    }

    private static void lampsOfItsOwnRoomWear() {
        Waxrow x = house();
        x.lamps(0, 0);
        x.lamps(1, 9);
        x.pass(1, 0, 40);
        Checks.due("without lamps", 0, x.ofFigure(0, 6));
        Checks.due("with nine", 16, x.ofFigure(1, 6));
    }

    private static void eachPartOfTheWearIsRoundedDown() {
        Checks.due("49 of 50, 2 of 3, 4 of 10", 0, wearOf(49, 2, 27));
        Checks.due("99 of 50, 8 of 3, 8 of 10", 3, wearOf(99, 8, 26));
    }

    /** One that is so worn, alone in its room. */
    private static Waxrow houseWithWorn(int wear) {
        Waxrow x = Checks.houseThatShows(500, 3);
        x.price(0);
        Checks.passQuietly(x, wear);
        Checks.due("worn", wear, x.ofFigure(0, 6));
        return x;
    }

    private static void wearIsAHundredAtMost() {
        Waxrow at = houseWithWorn(99);
        at.pass(1, 0, 0);
        Checks.due("just at it", 100, at.ofFigure(0, 6));
        Waxrow above = houseWithWorn(99);
        above.pass(1, 50, 0);
        Checks.due("just above", 100, above.ofFigure(0, 6));
        Waxrow far = houseWithWorn(99);
        far.lamps(0, 9);
        far.pass(1, 2000, 40);
        Checks.due("far above", 100, far.ofFigure(0, 6));
    }

    private static void figureMeltsWithAHundred() {
        Waxrow x = houseWithWorn(98);
        Checks.due("not with 99", 0, x.pass(1, 0, 0));
        Checks.due("worn", 99, x.ofFigure(0, 6));
        Checks.due("shown", 0, x.ofFigure(0, 8));
        Checks.due("done", 1, x.many(3));
        Checks.due("with 100", 1, x.pass(1, 0, 0));
        Checks.due("melted", 7, x.ofFigure(0, 8));
        Checks.due("done no more", 0, x.many(3));
        Waxrow y = houseWithWorn(98);
        Checks.due("with more than 100", 1, y.pass(1, 100, 0));
        Checks.due("melted of that", 7, y.ofFigure(0, 8));
    }

    private static void meltedByWearLeavesNoWax() {
        Waxrow x = houseWithWorn(99);
        x.pass(1, 0, 0);
        Checks.due("wax", 30, x.many(9));
        Checks.due("likeness", 0, x.ofFigure(0, 7));
        Checks.due("step", 6, x.ofFigure(0, 2));
    }

    private static void meltedByWearIsOutOfItsRoom() {
        Waxrow x = houseWithWorn(99);
        x.pass(1, 0, 0);
        Checks.due("spots", 1, x.ofRoom(0, 2));
        Checks.due("nobody is shown", -1, x.ofPerson(0, 10));
        Checks.due("draws", 0, x.many(14));
        Checks.due("a figure of the person is free to be begun", 0, x.bestNext());
        x.pass(1, 2000, 40);
        Checks.due("touched no more", 0, x.ofFigure(0, 11));
        Checks.due("no melting twice", 0, x.pass(40, 2000, 40));
    }

    private static int dueOf(int touches) {
        Waxrow x = Checks.houseThatShows(500, 0);
        x.price(0);
        x.pass(1, touches, 0);
        return x.ofPerson(0, 7);
    }

    private static void dueIsOneForEachWholeHundred() {
        int[] touches = {0, 99, 100, 101, 199, 200, 1999, 2000};
        int[] due = {0, 0, 1, 1, 1, 2, 19, 20};
        for (int i = 0; i < touches.length; i++) {
            Checks.due("due of " + touches[i], due[i], dueOf(touches[i]));
        }
    }

    private static void dueCountsEachDayForItself() {
        Waxrow x = Checks.houseThatShows(500, 0);
        x.price(0);
        x.pass(10, 99, 0);
        Checks.due("touched", 990, x.ofFigure(0, 11));
        Checks.due("no whole hundred on any day", 0, x.ofPerson(0, 7));
        x.pass(3, 199, 0);
        Checks.due("one on each day", 3, x.ofPerson(0, 7));
    }

    private static void dueCountsOnTheDayItMelts() {
        Waxrow x = houseWithWorn(99);
        Checks.due("melted", 1, x.pass(1, 2000, 40));
        Checks.due("due", 20, x.ofPerson(0, 7));
        Checks.due("touched", 2000, x.ofFigure(0, 11));
        Checks.due("paid", 20, x.pay(0));
        x.pass(1, 2000, 40);
        Checks.due("none on the day behind it", 0, x.ofPerson(0, 7));
    }

    private static void dueIsThatOfTheHead() {
        Waxrow x = new Waxrow();
        Checks.doneFigure(x, Checks.measuredPerson(x, 500, 50, 0));
        Checks.doneFigure(x, Checks.measuredPerson(x, 300, 50, 0));
        x.swap(0, 1);
        x.show(0, x.room(0, 1));
        x.price(0);
        x.pass(1, 700, 0);
        Checks.due("of the head", 7, x.ofPerson(1, 7));
        Checks.due("of the body", 0, x.ofPerson(0, 7));
        Checks.due("of all", 7, x.many(10));
    }

    private static void dueCountsWithoutMoney() {
        Waxrow x = Checks.houseThatShows(500, 0);
        x.price(0);
        x.pass(1, 500, 0);
        Checks.due("due", 5, x.ofPerson(0, 7));
        Checks.due("money stays till it is paid", 200, x.many(8));
    }

    /** Money that the first day of a tour to the land 1 brings. */
    private static int moneyOfTour(int fame, int wear) {
        Waxrow x = new Waxrow();
        Checks.doneFigure(x, Checks.measuredPerson(x, fame, 50, 0));
        x.room(0, 1);
        if (wear > 0) {
            Checks.wearInRoom(x, 0, 0, wear);
        }
        x.tour(0, 1, 1);
        x.pass(1, 0, 0);
        return x.many(8) - 200;
    }

    private static void tourMoneyIsDividedByAThousand() {
        Checks.due("9 times 100", 0, moneyOfTour(9, 0));
        Checks.due("10 times 100", 1, moneyOfTour(10, 0));
        Checks.due("10 times 99", 0, moneyOfTour(10, 2));
        Checks.due("19 times 100", 1, moneyOfTour(19, 0));
        Checks.due("20 times 100", 2, moneyOfTour(20, 0));
        Checks.due("999 times 100", 99, moneyOfTour(999, 0));
        Checks.due("0 times 100", 0, moneyOfTour(0, 0));
    }

    private static void tourMoneyIsOfItsLandAndHead() {
        for (int land = 1; land <= 2; land++) {
            Waxrow x = new Waxrow();
            x.person(10, 100, 200);
            x.person(500, 600, 700);
            for (int person = 0; person < 2; person++) {
                for (int measure = 0; measure < 6; measure++) {
                    x.measure(person, measure, 50, 0);
                }
                x.consent(person, true);
                Checks.doneFigure(x, person);
            }
            x.swap(0, 1);
            x.tour(0, land, 1);
            x.pass(1, 0, 0);
            Checks.due("fame of the head in the land " + land, 250 + land * 10, x.many(8));
        }
    }

    private static void tourMoneyIsAheadOfTheWear() {
        Waxrow x = new Waxrow();
        Checks.doneFigure(x, Checks.measuredPerson(x, 100, 50, 0));
        x.tour(0, 1, 2);
        x.pass(1, 0, 0);
        Checks.due("with the likeness of 100", 210, x.many(8));
        x.pass(1, 0, 0);
        Checks.due("with the likeness of 99", 219, x.many(8));
    }

    private static void tourWearsTwoADayTo99() {
        int[] worn = {0, 96, 97, 98, 99};
        int[] due = {2, 98, 99, 99, 99};
        for (int i = 0; i < worn.length; i++) {
            Waxrow x = houseWithWorn(worn[i]);
            x.take(0);
            x.tour(0, 1, 3);
            Checks.due("not melted", 0, x.pass(1, 0, 0));
            Checks.due("from " + worn[i], due[i], x.ofFigure(0, 6));
            Checks.due("on tour", 6, x.ofFigure(0, 8));
        }
    }

    private static void tourEndsWithItsLastDay() {
        Waxrow x = houseWithWorn(0);
        x.take(0);
        x.tour(0, 2, 1);
        Checks.due("on tour", 6, x.ofFigure(0, 8));
        Checks.due("many", 1, x.many(5));
        x.pass(1, 0, 0);
        Checks.due("in the store", 5, x.ofFigure(0, 8));
        Checks.due("days", 0, x.ofFigure(0, 9));
        Checks.due("money of one day", 250, x.many(8));
        x.pass(1, 0, 0);
        Checks.due("no money of a second", 250, x.many(8));
        Checks.due("no wear of a second", 2, x.ofFigure(0, 6));
        x.tour(0, 1, 2);
        x.pass(1, 0, 0);
        Checks.due("a day ahead of the last", 6, x.ofFigure(0, 8));
        Checks.due("a day is left", 1, x.ofFigure(0, 9));
        x.pass(1, 0, 0);
        Checks.due("with the last", 5, x.ofFigure(0, 8));
    }

    private static void tourOfSixtyDays() {
        Waxrow x = houseWithWorn(0);
        x.take(0);
        x.tour(0, 1, 60);
        Checks.passQuietly(x, 59);
        Checks.due("a day ahead of the last", 6, x.ofFigure(0, 8));
        Checks.due("worn", 99, x.ofFigure(0, 6));
        x.pass(1, 0, 0);
        Checks.due("with the last", 5, x.ofFigure(0, 8));
        Checks.due("not melted", 0, x.many(6));
    }

    private static void tourKnowsNoVisitorsAndNoWarmth() {
        Waxrow x = houseWithWorn(0);
        x.take(0);
        x.tour(0, 1, 5);
        x.pass(1, 2000, 40);
        Checks.due("worn", 2, x.ofFigure(0, 6));
        Checks.due("touched", 0, x.ofFigure(0, 11));
        Checks.due("due", 0, x.many(10));
        Checks.due("draw", 0, x.ofFigure(0, 10));
    }

    private static void storeWearsNothing() {
        Waxrow x = houseWithWorn(7);
        x.take(0);
        x.lamps(0, 9);
        x.pass(40, 2000, 40);
        Checks.due("worn", 7, x.ofFigure(0, 6));
        Checks.due("touched", 0, x.ofFigure(0, 11));
        Checks.due("place", 5, x.ofFigure(0, 8));
    }
}
