/** Promise 20: pass, and section 4 of the document, day by day. */
public final class DaysTest {
    public static void main(String[] args) {
        monthsBegin();
        monthsHoldFame();
        visitorsComeByThePrice();
        drawsShareTheTouches();
        drawsAreThoseAheadOfTheWear();
        monthCountsForTheSameDay();
        drawOfOneTakesAll();
        lastRoomCountsLikeTheOthers();
        wearHasThreeParts();
        warmthHarmsAboveTwentyFive();
        wearMelts();
        passCountsDoneAndMelted();
        figureDoneOnADayIsNotTouched();
        tourPaysBehindTheVisitors();
        passIsRefused();
        Checks.finish();
    }

    private static void monthsBegin() {
        Waxrow x = new Waxrow();
        x.person(100, 200, 300);
        x.trend(0, 0, 2);
        x.trend(0, 1, -1);
        x.pass(29, 0, 0);
        Checks.due("ahead of the month", 100, x.ofPerson(0, 0));
        x.pass(1, 0, 0);
        Checks.due("day", 30, x.many(0));
        int[] first = {102, 199, 300, 1, 0, 0};
        for (int what = 0; what < first.length; what++) {
            Checks.due("ofPerson(0, " + what + ") on day 30", first[what], x.ofPerson(0, what));
        }
        x.pass(30, 0, 0);
        Checks.due("fame on day 60", 103, x.ofPerson(0, 0));
        Checks.due("trend on day 60", 0, x.ofPerson(0, 3));
        Checks.due("fame there on day 60", 199, x.ofPerson(0, 1));
        x.pass(40, 0, 0);
        Checks.due("no trend any more", 103, x.ofPerson(0, 0));
    }

    private static void monthsHoldFame() {
        Waxrow x = new Waxrow();
        x.person(990, 10, 0);
        x.trend(0, 0, 40);
        x.trend(0, 1, -40);
        x.pass(30, 0, 0);
        Checks.due("999 at most", 999, x.ofPerson(0, 0));
        Checks.due("0 at least", 0, x.ofPerson(0, 1));
        Checks.due("trend nearer to 0", 39, x.ofPerson(0, 3));
        Checks.due("trend nearer to 0 from below", -39, x.ofPerson(0, 4));
    }

    private static void visitorsComeByThePrice() {
        Waxrow x = new Waxrow();
        x.pass(1, 101, 0);
        Checks.due("come, rounded down", 75, x.many(11));
        Checks.due("money", 575, x.many(8));
        x.price(20);
        x.pass(1, 2000, 0);
        Checks.due("none come for 20", 75, x.many(11));
        x.price(0);
        x.pass(1, 2000, 0);
        Checks.due("all come for 0", 2075, x.many(11));
        Checks.due("money stays", 575, x.many(8));
        x.price(19);
        x.pass(3, 39, 0);
        Checks.due("each day is rounded down", 2078, x.many(11));
        Checks.due("money by the price", 632, x.many(8));
    }

    /** Person 0 with fame 500 shown in room 0, person 1 with fame 250 in room 1, both without lamps. */
    private static Waxrow houseOfTwoShown() {
        Waxrow x = Checks.houseThatShows(500, 0);
        Checks.doneFigure(x, Checks.measuredPerson(x, 250, 50, 0));
        x.show(1, x.room(0, 1));
        return x;
    }

    private static void drawsShareTheTouches() {
        Waxrow x = houseOfTwoShown();
        x.price(0);
        x.pass(1, 1000, 0);
        Checks.due("two thirds", 666, x.ofFigure(0, 11));
        Checks.due("a third", 333, x.ofFigure(1, 11));
        Checks.due("wear of it", 13, x.ofFigure(0, 6));
        Checks.due("wear of the other", 6, x.ofFigure(1, 6));
        Checks.due("due", 6, x.ofPerson(0, 7));
        Checks.due("due to the other", 3, x.ofPerson(1, 7));
        x.take(0);
        x.pass(2, 199, 0);
        Checks.due("all touch the only one", 731, x.ofFigure(1, 11));
        Checks.due("each day's whole hundreds", 5, x.ofPerson(1, 7));
        Checks.due("none touch the one in the store", 666, x.ofFigure(0, 11));
        Waxrow y = Checks.houseThatShows(0, 0);
        y.pass(1, 2000, 0);
        Checks.due("none touch without draws", 0, y.ofFigure(0, 11));
        Checks.due("they come all the same", 1500, y.many(11));
    }

    private static void drawsAreThoseAheadOfTheWear() {
        Waxrow x = houseOfTwoShown();
        x.price(0);
        x.lamps(0, 9);
        x.pass(5, 0, 40);
        Checks.due("wear of the first", 80, x.ofFigure(0, 6));
        // 300 is its draw (500 * 60 / 100), 250 the other one's: they share, though the first is melted by the day.
        Checks.due("melted", 1, x.pass(1, 2000, 40));
        Checks.due("touched on its last day", 1090, x.ofFigure(0, 11));
        Checks.due("due for its last day", 10, x.ofPerson(0, 7));
        Checks.due("the other's part", 909, x.ofFigure(1, 11));
        Checks.due("melted by touches and heat", 7, x.ofFigure(0, 8));
    }

    private static void monthCountsForTheSameDay() {
        Waxrow x = houseOfTwoShown();
        x.trend(0, 0, -40);
        x.price(0);
        x.pass(21, 0, 0);
        Checks.due("day", 29, x.many(0));
        x.pass(1, 710, 0);
        Checks.due("460 of 710", 460, x.ofFigure(0, 11));
        Checks.due("250 of 710", 250, x.ofFigure(1, 11));
    }

    private static void drawOfOneTakesAll() {
        Waxrow x = Checks.houseThatShows(1, 0);
        x.price(0);
        Checks.due("draw", 1, x.ofFigure(0, 10));
        x.pass(1, 700, 0);
        Checks.due("all touch it", 700, x.ofFigure(0, 11));
    }

    private static void lastRoomCountsLikeTheOthers() {
        Waxrow x = Checks.houseThatShows(500, 0);
        Checks.doneFigure(x, Checks.measuredPerson(x, 300, 50, 0));
        for (int room = 1; room < 5; room++) {
            x.room(0, 1);
        }
        x.show(1, 4);
        Checks.due("where it is", 4, x.ofFigure(1, 8));
        Checks.due("shown", 2, x.many(4));
        Checks.due("all draws", 800, x.many(14));
        x.price(0);
        x.pass(1, 800, 0);
        Checks.due("its part", 300, x.ofFigure(1, 11));
        Checks.due("the other's part", 500, x.ofFigure(0, 11));
        Checks.due("both likenesses", 96.0, x.meanLikeness());
        x.take(0);
        Checks.due("its own alone", 97.0, x.meanLikeness());
        Checks.due("one is shown", 1, x.many(4));
    }

    private static void wearHasThreeParts() {
        Waxrow x = Checks.houseThatShows(999, 8);
        x.price(0);
        x.pass(1, 99, 26);
        // 99 / 50 is 1, 8 / 3 is 2, 1 * 8 / 10 is 0: each is rounded down for itself.
        Checks.due("each part is rounded down", 3, x.ofFigure(0, 6));
        x.pass(1, 100, 30);
        Checks.due("2 and 2 and 4", 11, x.ofFigure(0, 6));
        Checks.due("likeness less half of it", 95, x.ofFigure(0, 7));
        x.lamps(0, 0);
        x.pass(1, 0, 40);
        Checks.due("no lamps, no wear", 11, x.ofFigure(0, 6));
    }

    private static void warmthHarmsAboveTwentyFive() {
        Waxrow x = Checks.houseThatShows(500, 5);
        x.pass(1, 0, 25);
        Checks.due("25 is harmless", 1, x.ofFigure(0, 6));
        x.pass(1, 0, 0);
        Checks.due("cold is harmless", 2, x.ofFigure(0, 6));
        x.pass(1, 0, 27);
        Checks.due("27 is not", 4, x.ofFigure(0, 6));
    }

    private static void wearMelts() {
        Waxrow x = Checks.houseThatShows(500, 9);
        Checks.due("not yet", 0, x.pass(6, 0, 35));
        Checks.due("wear", 72, x.ofFigure(0, 6));
        Checks.due("not with 99 either", 0, x.pass(9, 0, 0));
        Checks.due("wear", 99, x.ofFigure(0, 6));
        Checks.due("shown", 0, x.ofFigure(0, 8));
        x.work(x.figure(0), 3);
        Checks.due("melted", 1, x.pass(1, 2000, 40));
        int[] melted = {0, 0, 6, 0, 0, 0, 100, 0, 7, 0, 0, 1500};
        for (int what = 0; what < melted.length; what++) {
            Checks.due("ofFigure(0, " + what + ") melted", melted[what], x.ofFigure(0, what));
        }
        Checks.due("without wax", 30, x.many(9));
        Checks.due("the spot is free", 1, x.ofRoom(0, 2));
        Checks.due("due for the last day", 15, x.ofPerson(0, 7));
        Checks.due("many melted", 1, x.many(6));
        Checks.due("nothing more", 0, x.pass(1, 2000, 40));
        Checks.due("none touch it any more", 1500, x.ofFigure(0, 11));
    }

    private static void passCountsDoneAndMelted() {
        Waxrow x = Checks.houseThatShows(500, 9);
        x.figure(0);
        x.figure(0);
        x.work(1, 4);
        x.work(2, 8);
        Checks.due("two done, one melted", 3, x.pass(40, 2000, 40));
        Checks.due("day", 44, x.many(0));
        Checks.due("done", 2, x.many(3));
        Checks.due("melted", 1, x.many(6));
    }

    private static void figureDoneOnADayIsNotTouched() {
        Waxrow x = new Waxrow();
        Checks.measuredPerson(x, 500, 50, 0);
        x.room(9, 4);
        x.figure(0);
        x.work(0, 9);
        Checks.due("done on the fourth day", 1, x.pass(4, 2000, 40));
        Checks.due("in the store", 5, x.ofFigure(0, 8));
        Checks.due("wear", 0, x.ofFigure(0, 6));
        x.pass(3, 2000, 40);
        Checks.due("no wear in the store", 0, x.ofFigure(0, 6));
    }

    private static void tourPaysBehindTheVisitors() {
        Waxrow x = new Waxrow();
        x.person(999, 300, 777);
        Checks.measuredPerson(x, 400, 50, 0);
        x.consent(0, true);
        for (int measure = 0; measure < 6; measure++) {
            x.measure(0, measure, 50, 0);
        }
        Checks.doneFigure(x, 0);
        Checks.doneFigure(x, 1);
        x.tour(0, 2, 2);
        x.tour(1, 1, 1);
        x.pass(1, 0, 40);
        // 777 * 100 / 1000 and 400 * 100 / 1000: each is rounded down for itself.
        Checks.due("fame of the land", 317, x.many(8));
        Checks.due("warmth does not matter", 2, x.ofFigure(0, 6));
        x.pass(1, 0, 40);
        Checks.due("with the likeness of the day", 393, x.many(8));
        Checks.due("one day is enough for the other", 5, x.ofFigure(1, 8));
        Checks.due("nobody touches it", 0, x.ofFigure(0, 11));
    }

    private static void passIsRefused() {
        Waxrow x = houseOfTwoShown();
        int[][] wrong = {
            {0, 0, 0}, {41, 0, 0}, {-1, 0, 0}, {1, -1, 0}, {1, 2001, 0}, {1, 0, -1}, {1, 0, 41},
            {Integer.MAX_VALUE, 0, 0}, {1, Integer.MIN_VALUE, 0}, {1, 0, Integer.MAX_VALUE},
        };
        for (int[] w : wrong) {
            Checks.refused("pass(" + w[0] + ", " + w[1] + ", " + w[2] + ")", x, Checks.ARGUMENT,
                    () -> x.pass(w[0], w[1], w[2]));
        }
    }
}
