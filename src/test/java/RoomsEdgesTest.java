/** Section 3 of the document, the rooms of section 5, and promises 14 to 19: a test for each edge. */
public final class RoomsEdgesTest {
    public static void main(String[] args) {
        roomTakesLeastAndMost();
        roomsAreNumberedFromZero();
        lampsAnswerThoseBefore();
        lampsCountFromTheNextDay();
        showNeedsOneThatIsDone();
        showNeedsOneInTheStore();
        showNeedsConsentOfTheHead();
        showNeedsLikenessOfThirty();
        showNeedsLikenessOfThirtyWithWear();
        showNeedsAFreeSpot();
        showNeedsNoOtherOfThatHead();
        showLooksAtHeadsNotBodies();
        showTakesTheSameHeadBehindATake();
        showTakesTheSameHeadBesideATour();
        showAnswersADrawOfZero();
        showAnswersTheDrawRoundedDown();
        shownStaysWithLessLikeness();
        withdrawnCannotBeShownTillGivenAnew();
        withdrawnOnTourComesBackToTheStore();
        takeAnswersEachRoom();
        takeNeedsARoom();
        cleanTakesSixAndZeroAtLeast();
        cleanLeavesOtherPlacesAlone();
        cleanTakesMoneyBelowZero();
        cleanOfAllInTheRoom();
        priceAnswersThatBefore();
        Checks.finish();
    }

    /** Figures 0 and 1 are done, of persons 0 and 1; figure 2 is done, of person 0, too; rooms of 1 and 4 spots. */
    private static Waxrow house() {
        Waxrow x = new Waxrow();
        Checks.doneFigure(x, Checks.measuredPerson(x, 500, 50, 0));
        Checks.doneFigure(x, Checks.measuredPerson(x, 300, 50, 0));
        Checks.doneFigure(x, 0);
        x.room(3, 1);
        x.room(6, 4);
        return x;
    }

    private static Waxrow houseThatShowsFirst() {
        Waxrow x = house();
        x.show(0, 0);
        return x;
    }

    private static void roomTakesLeastAndMost() {
        Waxrow x = new Waxrow();
        Checks.due("least", 0, x.room(0, 1));
        Checks.due("most", 1, x.room(9, 4));
        int[] least = {0, 1, 1, 0};
        int[] most = {9, 4, 4, 0};
        for (int what = 0; what < 4; what++) {
            Checks.due("ofRoom(0, " + what + ")", least[what], x.ofRoom(0, what));
            Checks.due("ofRoom(1, " + what + ")", most[what], x.ofRoom(1, what));
        }
    }

    private static void roomsAreNumberedFromZero() {
        Waxrow x = new Waxrow();
        for (int i = 0; i < 5; i++) {
            Checks.due("number", i, x.room(i, 1));
            Checks.due("rooms", i + 1, x.many(7));
        }
    }

    private static void lampsAnswerThoseBefore() {
        Waxrow x = house();
        Checks.due("at first", 3, x.lamps(0, 9));
        Checks.due("most", 9, x.lamps(0, 0));
        Checks.due("least", 0, x.lamps(0, 0));
        Checks.due("the other room", 6, x.ofRoom(1, 0));
    }

    private static void lampsCountFromTheNextDay() {
        Waxrow x = houseThatShowsFirst();
        x.pass(1, 0, 0);
        x.lamps(0, 9);
        Checks.due("wear as before", 1, x.ofFigure(0, 6));
        x.pass(1, 0, 0);
        Checks.due("wear behind a day", 4, x.ofFigure(0, 6));
    }

    private static Waxrow houseWithNearlyDone() {
        Waxrow x = house();
        Checks.measuredPerson(x, 100, 50, 0);
        x.work(x.figure(2), 9);
        x.pass(3, 0, 0);
        return x;
    }

    private static void showNeedsOneThatIsDone() {
        Checks.refused("a day ahead", RoomsEdgesTest::houseWithNearlyDone, Checks.STATE, x -> x.show(3, 0));
        Waxrow x = houseWithNearlyDone();
        x.pass(1, 0, 0);
        Checks.due("a day later", 100, x.show(3, 0));
        Checks.refused("melted", RoomsEdgesTest::houseWithMelted, Checks.STATE, h -> h.show(0, 0));
    }

    private static Waxrow houseWithMelted() {
        Waxrow x = house();
        x.melt(0);
        return x;
    }

    private static Waxrow houseWithOneOnTour() {
        Waxrow x = house();
        x.tour(0, 1, 2);
        return x;
    }

    private static void showNeedsOneInTheStore() {
        Checks.refused("shown there", RoomsEdgesTest::houseThatShowsFirst, Checks.STATE, x -> x.show(0, 0));
        Checks.refused("shown elsewhere", RoomsEdgesTest::houseThatShowsFirst, Checks.STATE, x -> x.show(0, 1));
        Checks.refused("on tour", RoomsEdgesTest::houseWithOneOnTour, Checks.STATE, x -> x.show(0, 0));
        Waxrow x = houseWithOneOnTour();
        x.pass(2, 0, 0);
        // Its wear is 4 by then.
        Checks.due("back from the tour", 490, x.show(0, 0));
    }

    private static Waxrow houseWithoutConsent() {
        Waxrow x = house();
        x.consent(0, false);
        return x;
    }

    private static Waxrow swappedHouseWithoutConsent() {
        Waxrow x = houseWithoutConsent();
        x.swap(0, 1);
        return x;
    }

    private static void showNeedsConsentOfTheHead() {
        Checks.refused("no consent", RoomsEdgesTest::houseWithoutConsent, Checks.STATE, x -> x.show(0, 0));
        Checks.due("that of the other is enough for it", 300, houseWithoutConsent().show(1, 0));
        Checks.refused("none of the head", RoomsEdgesTest::swappedHouseWithoutConsent, Checks.STATE,
                x -> x.show(1, 0));
        Checks.due("none of the body does not matter", 300, swappedHouseWithoutConsent().show(0, 0));
    }

    /** A figure of a person with fame 100, done, with this flaw from 66 to 72, and a room. */
    private static Waxrow houseWithFlaw(int flaw) {
        Waxrow x = new Waxrow();
        x.person(100, 100, 100);
        x.consent(0, true);
        // Four measures stay at 99, which is 396; the last two share what is left of six times the flaw.
        int rest = flaw * 6 - 396;
        int width = Math.min(rest, 20);
        x.measure(0, 4, 0, width);
        x.measure(0, 5, 0, rest - width);
        Checks.doneFigure(x, 0);
        x.room(3, 1);
        Checks.due("flaw", flaw, x.ofFigure(0, 5));
        return x;
    }

    private static void showNeedsLikenessOfThirty() {
        Waxrow above = houseWithFlaw(69);
        Checks.due("likeness 31", 31, above.show(0, 0));
        Waxrow at = houseWithFlaw(70);
        Checks.due("likeness 30", 30, at.show(0, 0));
        Checks.refused("likeness 29", () -> houseWithFlaw(71), Checks.STATE, x -> x.show(0, 0));
    }

    private static Waxrow houseWithFlawAndTour(int flaw) {
        Waxrow x = houseWithFlaw(flaw);
        Checks.wearOnTour(x, 0, 2);
        return x;
    }

    private static void showNeedsLikenessOfThirtyWithWear() {
        Waxrow x = houseWithFlaw(70);
        Checks.wearInRoom(x, 0, 0, 1);
        Checks.due("a wear of 1 leaves 30", 30, x.show(0, 0));
        Checks.due("a flaw of 69 and a wear of 2 leave 30", 30, houseWithFlawAndTour(69).show(0, 0));
        Checks.refused("a flaw of 70 and a wear of 2 leave 29", () -> houseWithFlawAndTour(70), Checks.STATE,
                h -> h.show(0, 0));
    }

    private static void showNeedsAFreeSpot() {
        Checks.due("no spot", 0, houseThatShowsFirst().ofRoom(0, 2));
        Checks.refused("the room is full", RoomsEdgesTest::houseThatShowsFirst, Checks.STATE, x -> x.show(1, 0));
        Checks.due("another room", 300, houseThatShowsFirst().show(1, 1));
    }

    private static void showNeedsNoOtherOfThatHead() {
        Checks.refused("in another room", RoomsEdgesTest::houseThatShowsFirst, Checks.STATE, x -> x.show(2, 1));
        Checks.refused("in the same room", RoomsEdgesTest::houseThatShowsFirstInTheLargeRoom, Checks.STATE,
                x -> x.show(2, 1));
    }

    private static Waxrow houseThatShowsFirstInTheLargeRoom() {
        Waxrow x = house();
        x.show(0, 1);
        return x;
    }

    private static Waxrow houseThatShowsSwapped() {
        Waxrow x = house();
        x.swap(0, 1);
        x.show(0, 0);
        return x;
    }

    private static void showLooksAtHeadsNotBodies() {
        Checks.due("the head of person 0 on the body of 1", 500, houseThatShowsSwapped().show(1, 1));
        Checks.due("the head of person 0 on its own body", 500, houseThatShowsSwapped().show(2, 1));
        Waxrow x = houseThatShowsSwapped();
        x.show(1, 1);
        Checks.due("who is shown of person 0", 1, x.ofPerson(0, 10));
        Checks.due("who is shown of person 1", 0, x.ofPerson(1, 10));
        Checks.refused("two heads of person 0", RoomsEdgesTest::houseThatShowsBothSwapped, Checks.STATE,
                h -> h.show(2, 1));
    }

    private static Waxrow houseThatShowsBothSwapped() {
        Waxrow x = houseThatShowsSwapped();
        x.show(1, 1);
        return x;
    }

    private static void showTakesTheSameHeadBehindATake() {
        Waxrow x = houseThatShowsFirst();
        x.take(0);
        Checks.due("the other one", 500, x.show(2, 0));
        Checks.due("which is shown", 2, x.ofPerson(0, 10));
    }

    private static void showTakesTheSameHeadBesideATour() {
        Checks.due("one on tour is not shown", 500, houseWithOneOnTour().show(2, 0));
    }

    private static void showAnswersADrawOfZero() {
        Waxrow x = house();
        x.news(0, -500);
        Checks.due("without fame", 0, x.show(0, 0));
        Checks.due("it is shown", 0, x.ofFigure(0, 8));
    }

    private static void showAnswersTheDrawRoundedDown() {
        int[] fame = {1, 100, 101, 199, 200, 999};
        int[] draws = {0, 99, 99, 197, 198, 989};
        for (int i = 0; i < fame.length; i++) {
            Waxrow x = new Waxrow();
            Checks.doneFigure(x, Checks.measuredPerson(x, fame[i], 50, 0));
            Checks.wearOnTour(x, 0, 2);
            x.room(0, 1);
            Checks.due("draw of " + fame[i] + " with a likeness of 99", draws[i], x.show(0, 0));
            Checks.due("asked", draws[i], x.ofFigure(0, 10));
        }
    }

    private static void shownStaysWithLessLikeness() {
        Waxrow x = houseWithFlaw(70);
        x.show(0, 0);
        x.pass(40, 0, 0);
        Checks.due("likeness", 10, x.ofFigure(0, 7));
        Checks.due("still there", 0, x.ofFigure(0, 8));
        Checks.due("draw", 10, x.ofFigure(0, 10));
    }

    private static Waxrow houseThatWithdraws() {
        Waxrow x = houseThatShowsFirst();
        x.consent(0, false);
        return x;
    }

    private static void withdrawnCannotBeShownTillGivenAnew() {
        Waxrow x = houseThatWithdraws();
        Checks.due("the spot is free at once", 1, x.ofRoom(0, 2));
        Checks.due("no draws", 0, x.ofRoom(0, 3));
        x.pass(1, 2000, 40);
        Checks.due("nobody touches it", 0, x.ofFigure(0, 11));
        Checks.due("nothing wears it", 0, x.ofFigure(0, 6));
        Checks.refused("withdrawn", RoomsEdgesTest::houseThatWithdraws, Checks.STATE, h -> h.show(0, 0));
        x.consent(0, true);
        Checks.due("given anew", 500, x.show(0, 0));
    }

    private static void withdrawnOnTourComesBackToTheStore() {
        Waxrow x = houseWithOneOnTour();
        Checks.due("none goes out of a room", 0, x.consent(0, false));
        Checks.due("it stays on tour", 6, x.ofFigure(0, 8));
        x.pass(1, 0, 0);
        Checks.due("a day left", 1, x.ofFigure(0, 9));
        Checks.due("it earns all the same", 250, x.many(8));
        x.pass(1, 0, 0);
        Checks.due("back in the store", 5, x.ofFigure(0, 8));
    }

    private static void takeAnswersEachRoom() {
        Waxrow x = house();
        for (int room = 2; room < 5; room++) {
            x.room(0, 1);
        }
        for (int room = 0; room < 5; room++) {
            x.show(0, room);
            Checks.due("place", room, x.ofFigure(0, 8));
            Checks.due("room", room, x.take(0));
            Checks.due("in the store", 5, x.ofFigure(0, 8));
        }
    }

    private static void takeNeedsARoom() {
        Checks.refused("in the store", RoomsEdgesTest::house, Checks.STATE, x -> x.take(0));
        Checks.refused("on tour", RoomsEdgesTest::houseWithOneOnTour, Checks.STATE, x -> x.take(0));
        Checks.refused("melted", RoomsEdgesTest::houseWithMelted, Checks.STATE, x -> x.take(0));
        Checks.refused("not done", RoomsEdgesTest::houseWithNearlyDone, Checks.STATE, x -> x.take(3));
    }

    private static void cleanTakesSixAndZeroAtLeast() {
        int[] worn = {1, 5, 6, 7, 12, 13};
        int[] left = {0, 0, 0, 1, 6, 7};
        for (int i = 0; i < worn.length; i++) {
            Waxrow x = houseThatShowsFirst();
            x.pass(worn[i], 0, 0);
            Checks.due("wear", worn[i], x.ofFigure(0, 6));
            Checks.due("money", 195, x.clean(0));
            Checks.due("wear behind " + worn[i], left[i], x.ofFigure(0, 6));
        }
        Waxrow x = houseThatShowsFirst();
        Checks.due("without wear", 195, x.clean(0));
        Checks.due("it stays 0", 0, x.ofFigure(0, 6));
    }

    private static void cleanLeavesOtherPlacesAlone() {
        Waxrow x = house();
        Checks.wearInRoom(x, 0, 0, 10);
        Checks.wearInRoom(x, 1, 0, 10);
        Checks.wearInRoom(x, 2, 0, 10);
        x.tour(0, 1, 9);
        x.show(1, 1);
        x.clean(0);
        int[] wear = {10, 10, 10};
        for (int figure = 0; figure < wear.length; figure++) {
            Checks.due("wear of " + figure, wear[figure], x.ofFigure(figure, 6));
        }
        x.clean(1);
        Checks.due("on tour", 10, x.ofFigure(0, 6));
        Checks.due("in that room", 4, x.ofFigure(1, 6));
        Checks.due("in the store", 10, x.ofFigure(2, 6));
    }

    private static void cleanTakesMoneyBelowZero() {
        Waxrow x = house();
        for (int money = 195; money >= -10; money -= 5) {
            Checks.due("money", money, x.clean(0));
            Checks.due("money of many", money, x.many(8));
        }
    }

    private static void cleanOfAllInTheRoom() {
        Waxrow x = house();
        x.show(0, 1);
        x.show(1, 1);
        x.pass(4, 0, 0);
        Checks.due("it costs as much", 195, x.clean(1));
        Checks.due("first", 2, x.ofFigure(0, 6));
        Checks.due("second", 2, x.ofFigure(1, 6));
    }

    private static void priceAnswersThatBefore() {
        Waxrow x = new Waxrow();
        Checks.due("5 at first", 5, x.many(13));
        Checks.due("told the first time", 5, x.price(0));
        Checks.due("least", 0, x.price(20));
        Checks.due("most", 20, x.price(20));
        Checks.due("now", 20, x.many(13));
    }
}
