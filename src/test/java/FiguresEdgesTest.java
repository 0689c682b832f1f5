/** Section 2 of the document, and promises 8 to 13: a test for each sentence that names an edge. */
public final class FiguresEdgesTest {
    public static void main(String[] args) {
        headAndBodyAreTheSameAtFirst();
        figureIsInTheStoreAtFirst();
        eachStepEndsWithItsWork();
        workGoesOverToTheNextStep();
        workBehindTheLastStepIsLost();
        handsAreNoneAtFirst();
        handsWorkTillToldAnew();
        handsOfAllAreTwelveAtMost();
        handsToldAnewFreeTheOldOnes();
        doneFigureHasNoHands();
        meltedFigureHasNoHands();
        flawIsZeroAheadOfStepOne();
        flawIsTheDoubtOfThatDay();
        likenessIsZeroTillDone();
        likenessLosesHalfOfTheWear();
        likenessLosesAFourthOfTheHeights();
        likenessLosesHeightsOfTwoPersonsAlone();
        likenessLosesTheHeightAlone();
        likenessLooksAtHeightsAsTheyAreKnownNow();
        likenessIsZeroAtLeast();
        swapGivesHeadAndFlawAlone();
        swapOfTheSamePersonGivesFlaws();
        swapTwiceIsAsBefore();
        swapNeedsBothDone();
        swapNeedsBothInTheStore();
        meltedIsForGood();
        meltedKeepsItsStepAndWork();
        meltGivesWaxFromStepFourOn();
        meltNeedsTheStore();
        mendTakesWholeTens();
        mendGoesAsFarAsThereIsWax();
        mendNeedsOneDoneInTheStore();
        tourNeedsConsentOfTheHead();
        tourNeedsOneDoneInTheStore();
        tourTakesAFigureOfAnyLikeness();
        refusedTourLeavesTheTourAsItIs();
        Checks.finish();
    }

    private static Waxrow houseOfFrame() {
        Waxrow x = new Waxrow();
        x.person(500, 500, 500);
        x.consent(0, true);
        x.figure(0);
        return x;
    }

    /** Person 0 without doubt, height 40; person 1 with a doubt of 6, height from 58 to 64; a figure of each. */
    private static Waxrow houseOfTwo() {
        Waxrow x = new Waxrow();
        Checks.doneFigure(x, Checks.measuredPerson(x, 300, 40, 0));
        Checks.doneFigure(x, Checks.measuredPerson(x, 700, 61, 3));
        x.room(3, 4);
        return x;
    }

    private static Waxrow houseOfTwoWithFrame() {
        Waxrow x = houseOfTwo();
        x.figure(0);
        return x;
    }

    private static Waxrow houseOfTwoWithOneShown() {
        Waxrow x = houseOfTwo();
        x.show(0, 0);
        return x;
    }

    private static Waxrow houseOfTwoWithOneOnTour() {
        Waxrow x = houseOfTwo();
        x.tour(0, 1, 1);
        return x;
    }

    private static Waxrow houseOfTwoWithOneMelted() {
        Waxrow x = houseOfTwo();
        x.melt(0);
        return x;
    }

    private static void headAndBodyAreTheSameAtFirst() {
        Waxrow x = houseOfTwo();
        int figure = x.figure(1);
        Checks.due("head", 1, x.ofFigure(figure, 0));
        Checks.due("body", 1, x.ofFigure(figure, 1));
    }

    private static void figureIsInTheStoreAtFirst() {
        Waxrow x = houseOfFrame();
        Checks.due("place", 5, x.ofFigure(0, 8));
        Checks.due("step", 0, x.ofFigure(0, 2));
        Checks.due("work that it needs", 4, x.ofFigure(0, 3));
        Checks.due("flaw", 0, x.ofFigure(0, 5));
        Checks.due("wear", 0, x.ofFigure(0, 6));
    }

    private static void eachStepEndsWithItsWork() {
        int[] ends = {4, 14, 17, 19, 31, 36};
        for (int step = 0; step < ends.length; step++) {
            Waxrow x = houseOfFrame();
            x.work(0, 1);
            Checks.due("not done by the days ahead", 0, x.pass(ends[step] - 1, 0, 0));
            Checks.due("step just ahead of the end", step, x.ofFigure(0, 2));
            Checks.due("work just ahead of the end", 1, x.ofFigure(0, 3));
            Checks.due("done by the last day", step == 5 ? 1 : 0, x.pass(1, 0, 0));
            Checks.due("step at the end", step + 1, x.ofFigure(0, 2));
            int[] needs = {10, 3, 2, 12, 5, 0};
            Checks.due("work of the next step", needs[step], x.ofFigure(0, 3));
        }
    }

    private static void workGoesOverToTheNextStep() {
        Waxrow x = houseOfFrame();
        x.work(0, 9);
        int[] steps = {1, 3, 4, 6};
        int[] lefts = {5, 1, 4, 0};
        for (int day = 0; day < 4; day++) {
            x.pass(1, 0, 0);
            Checks.due("step behind " + (day + 1), steps[day], x.ofFigure(0, 2));
            Checks.due("work left behind " + (day + 1), lefts[day], x.ofFigure(0, 3));
        }
    }

    private static void workBehindTheLastStepIsLost() {
        Waxrow x = houseOfFrame();
        x.figure(0);
        x.work(0, 7);
        x.work(1, 5);
        // Six days of 7 are 42 of work, where 36 are needed.
        Checks.due("done", 1, x.pass(6, 0, 0));
        Checks.due("step", 6, x.ofFigure(0, 2));
        Checks.due("work left", 0, x.ofFigure(0, 3));
        Checks.due("the other one has its own work alone", 1, x.ofFigure(1, 3));
        Checks.due("its step", 4, x.ofFigure(1, 2));
    }

    private static void handsAreNoneAtFirst() {
        Waxrow x = houseOfFrame();
        Checks.due("hands", 0, x.ofFigure(0, 4));
        Checks.due("nothing is done", 0, x.pass(40, 0, 0));
        Checks.due("work left", 4, x.ofFigure(0, 3));
        Checks.due("told none", 0, x.work(0, 0));
    }

    private static void handsWorkTillToldAnew() {
        Waxrow x = houseOfFrame();
        Checks.due("one", 1, x.work(0, 1));
        x.pass(2, 0, 0);
        Checks.due("two of work", 2, x.ofFigure(0, 3));
        Checks.due("two hands", 2, x.work(0, 2));
        x.pass(1, 0, 0);
        Checks.due("four of work", 1, x.ofFigure(0, 2));
        Checks.due("no hands", 0, x.work(0, 0));
        x.pass(5, 0, 0);
        Checks.due("not more", 10, x.ofFigure(0, 3));
        Checks.due("hands again", 9, x.work(0, 9));
        x.pass(1, 0, 0);
        Checks.due("nine more", 1, x.ofFigure(0, 3));
    }

    /** Figure 0 has 9 hands, 1 has 2, 2 has none. */
    private static Waxrow houseOfElevenHands() {
        Waxrow x = houseOfFrame();
        x.figure(0);
        x.figure(0);
        x.work(0, 9);
        x.work(1, 2);
        return x;
    }

    private static void handsOfAllAreTwelveAtMost() {
        Checks.due("just below", 11, houseOfElevenHands().many(12));
        Checks.due("at it", 12, houseOfElevenHands().work(2, 1));
        Checks.refused("just above", FiguresEdgesTest::houseOfElevenHands, Checks.STATE, x -> x.work(2, 2));
        Checks.refused("far above", FiguresEdgesTest::houseOfElevenHands, Checks.STATE, x -> x.work(2, 9));
        Checks.refused("by more of the same", FiguresEdgesTest::houseOfElevenHands, Checks.STATE,
                x -> x.work(1, 4));
    }

    private static void handsToldAnewFreeTheOldOnes() {
        Checks.due("as many as before", 11, houseOfElevenHands().work(0, 9));
        Checks.due("up to twelve", 12, houseOfElevenHands().work(1, 3));
        Waxrow x = houseOfElevenHands();
        Checks.due("fewer", 3, x.work(0, 1));
        Checks.due("so that others find some", 12, x.work(2, 9));
    }

    private static void doneFigureHasNoHands() {
        Waxrow x = houseOfElevenHands();
        Checks.due("done", 1, x.pass(4, 0, 0));
        Checks.due("hands", 0, x.ofFigure(0, 4));
        Checks.due("all hands", 2, x.many(12));
        Checks.due("hands for another", 11, x.work(2, 9));
        Checks.refused("none for the one that is done", FiguresEdgesTest::houseOfTwo, Checks.STATE,
                h -> h.work(0, 1));
        Checks.refused("not even 0", FiguresEdgesTest::houseOfTwo, Checks.STATE, h -> h.work(0, 0));
    }

    private static void meltedFigureHasNoHands() {
        Waxrow x = houseOfElevenHands();
        x.melt(0);
        Checks.due("hands", 0, x.ofFigure(0, 4));
        Checks.due("all hands", 2, x.many(12));
        Checks.due("no day works on it", 0, x.pass(4, 0, 0));
        Checks.due("step", 0, x.ofFigure(0, 2));
        Checks.refused("none for a melted frame", FiguresEdgesTest::houseOfMeltedFrame, Checks.STATE,
                h -> h.work(0, 1));
        Checks.refused("not even 0", FiguresEdgesTest::houseOfMeltedFrame, Checks.STATE, h -> h.work(0, 0));
        Checks.refused("none for a melted one that was done", FiguresEdgesTest::houseOfTwoWithOneMelted,
                Checks.STATE, h -> h.work(0, 0));
    }

    private static Waxrow houseOfMeltedFrame() {
        Waxrow x = houseOfFrame();
        x.melt(0);
        return x;
    }

    private static void flawIsZeroAheadOfStepOne() {
        Waxrow x = houseOfFrame();
        x.work(0, 3);
        x.pass(1, 0, 0);
        Checks.due("step", 0, x.ofFigure(0, 2));
        Checks.due("doubt", 99, x.ofPerson(0, 8));
        Checks.due("flaw", 0, x.ofFigure(0, 5));
    }

    private static void flawIsTheDoubtOfThatDay() {
        Waxrow x = houseOfFrame();
        x.work(0, 3);
        x.pass(1, 0, 0);
        x.measure(0, 0, 50, 0);
        x.pass(1, 0, 0);
        Checks.due("step", 1, x.ofFigure(0, 2));
        Checks.due("doubt by then", 82, x.ofFigure(0, 5));
        x.measure(0, 1, 50, 0);
        x.pass(40, 0, 0);
        Checks.due("done", 6, x.ofFigure(0, 2));
        Checks.due("kept", 82, x.ofFigure(0, 5));
        Waxrow y = houseOfFrame();
        y.measure(0, 0, 50, 0);
        y.work(0, 9);
        y.pass(1, 0, 0);
        Checks.due("on a day that goes on behind step 1", 82, y.ofFigure(0, 5));
        Checks.due("step of it", 1, y.ofFigure(0, 2));
    }

    private static void likenessIsZeroTillDone() {
        Waxrow x = new Waxrow();
        x.figure(Checks.measuredPerson(x, 500, 50, 0));
        x.work(0, 1);
        x.pass(35, 0, 0);
        Checks.due("just ahead of it", 0, x.ofFigure(0, 7));
        x.pass(1, 0, 0);
        Checks.due("done", 100, x.ofFigure(0, 7));
        x.melt(0);
        Checks.due("melted", 0, x.ofFigure(0, 7));
    }

    private static void likenessLosesHalfOfTheWear() {
        Waxrow x = houseOfTwo();
        int[] likeness = {100, 99, 99, 98, 98};
        for (int wear = 1; wear <= likeness.length; wear++) {
            Checks.wearInRoom(x, 0, 0, 1);
            Checks.due("wear", wear, x.ofFigure(0, 6));
            Checks.due("likeness with a wear of " + wear, likeness[wear - 1], x.ofFigure(0, 7));
        }
        Checks.wearInRoom(x, 0, 0, 93);
        Checks.due("likeness with a wear of 98", 51, x.ofFigure(0, 7));
        Checks.wearInRoom(x, 0, 0, 1);
        Checks.due("likeness with a wear of 99", 51, x.ofFigure(0, 7));
    }

    /** Two with swapped heads; the height of person 0 is 40, that of person 1 is measured so. */
    private static Waxrow houseOfHeights(int value, int error) {
        Waxrow x = new Waxrow();
        for (int i = 0; i < 2; i++) {
            Checks.measuredPerson(x, 500, 40, 0);
            Checks.doneFigure(x, i);
        }
        x.measure(1, 5, 99, 0);
        x.measure(1, 5, value, error);
        x.swap(0, 1);
        return x;
    }

    private static void likenessLosesAFourthOfTheHeights() {
        // LOW and HIGH are the same, so both together differ by twice as much as the values.
        int[] values = {40, 41, 42, 43, 44, 39, 38, 37, 36};
        int[] likeness = {100, 100, 99, 99, 98, 100, 99, 99, 98};
        for (int i = 0; i < values.length; i++) {
            Waxrow x = houseOfHeights(values[i], 0);
            Checks.due("first, height " + values[i], likeness[i], x.ofFigure(0, 7));
            Checks.due("second, height " + values[i], likeness[i], x.ofFigure(1, 7));
        }
        // LOW and HIGH together are 2 to 5 against 80.
        int[] errors = {2, 3, 4, 5};
        int[] heldLikeness = {81, 81, 81, 82};
        for (int i = 0; i < errors.length; i++) {
            Waxrow x = houseOfHeights(0, errors[i]);
            Checks.due("height from 0 to " + errors[i], heldLikeness[i], x.ofFigure(0, 7));
        }
        Checks.due("height 99", 71, houseOfHeights(99, 0).ofFigure(1, 7));
    }

    private static void likenessLosesHeightsOfTwoPersonsAlone() {
        Waxrow x = new Waxrow();
        Checks.doneFigure(x, Checks.measuredPerson(x, 500, 40, 0));
        Checks.doneFigure(x, 0);
        x.measure(0, 5, 99, 20);
        Checks.due("ahead of a swap", 100, x.ofFigure(0, 7));
        Checks.due("head and body of the same person still", 100, x.swap(0, 1));
    }

    private static void likenessLosesTheHeightAlone() {
        Waxrow x = houseOfHeights(40, 0);
        for (int measure = 0; measure < 5; measure++) {
            x.measure(1, measure, 99, 0);
        }
        Checks.due("other measures do not matter", 100, x.ofFigure(0, 7));
        x.measure(1, 5, 99, 0);
        Checks.due("the height does", 71, x.ofFigure(0, 7));
    }

    private static void likenessLooksAtHeightsAsTheyAreKnownNow() {
        Waxrow x = houseOfHeights(44, 0);
        Checks.due("by then", 98, x.ofFigure(0, 7));
        x.measure(0, 5, 44, 0);
        Checks.due("measured anew", 100, x.ofFigure(0, 7));
        Checks.due("for both", 100, x.ofFigure(1, 7));
    }

    private static void likenessIsZeroAtLeast() {
        Waxrow x = houseOfFrame();
        x.work(0, 9);
        x.pass(4, 0, 0);
        int[] likeness = {1, 0, 0};
        for (int tours = 0; tours < likeness.length; tours++) {
            Checks.due("a flaw of 99 and a wear of " + 2 * tours, likeness[tours], x.ofFigure(0, 7));
            x.tour(0, 1, 1);
            x.pass(1, 0, 0);
        }
    }

    private static void swapGivesHeadAndFlawAlone() {
        Waxrow x = houseOfTwo();
        Checks.wearInRoom(x, 0, 0, 6);
        int touched = x.ofFigure(0, 11);
        Checks.due("100 - 6 - 3 - 42 / 4", 81, x.swap(0, 1));
        int[] first = {1, 0, 6, 0, 0, 6, 6, 81, 5, 0, 0, touched};
        int[] second = {0, 1, 6, 0, 0, 0, 0, 90, 5, 0, 0, 0};
        for (int what = 0; what < first.length; what++) {
            Checks.due("ofFigure(0, " + what + ")", first[what], x.ofFigure(0, what));
            Checks.due("ofFigure(1, " + what + ")", second[what], x.ofFigure(1, what));
        }
    }

    private static void swapOfTheSamePersonGivesFlaws() {
        Waxrow x = new Waxrow();
        x.person(500, 500, 500);
        Checks.doneFigure(x, 0);
        for (int measure = 0; measure < 6; measure++) {
            x.measure(0, measure, 50, 0);
        }
        Checks.doneFigure(x, 0);
        Checks.due("the first is as good as the second was", 100, x.swap(0, 1));
        Checks.due("flaw of the first", 0, x.ofFigure(0, 5));
        Checks.due("flaw of the second", 99, x.ofFigure(1, 5));
        Checks.due("likeness of the second", 1, x.ofFigure(1, 7));
    }

    private static void swapTwiceIsAsBefore() {
        Waxrow x = houseOfTwo();
        String before = Checks.stateOf(x);
        Checks.due("once", 84, x.swap(0, 1));
        Checks.due("twice, the other way round", 94, x.swap(1, 0));
        Checks.due("state", before, Checks.stateOf(x));
    }

    private static void swapNeedsBothDone() {
        Checks.refused("first not done", FiguresEdgesTest::houseOfTwoWithFrame, Checks.STATE, x -> x.swap(2, 0));
        Checks.refused("second not done", FiguresEdgesTest::houseOfTwoWithFrame, Checks.STATE, x -> x.swap(0, 2));
        Checks.refused("first one day ahead", FiguresEdgesTest::houseOfTwoWithNearlyDone, Checks.STATE,
                x -> x.swap(2, 0));
        Checks.refused("second one day ahead", FiguresEdgesTest::houseOfTwoWithNearlyDone, Checks.STATE,
                x -> x.swap(0, 2));
        Waxrow x = houseOfTwoWithNearlyDone();
        x.pass(1, 0, 0);
        Checks.due("a day later", 90, x.swap(1, 2));
        Checks.refused("first melted", FiguresEdgesTest::houseOfTwoWithOneMelted, Checks.STATE, h -> h.swap(0, 1));
        Checks.refused("second melted", FiguresEdgesTest::houseOfTwoWithOneMelted, Checks.STATE, h -> h.swap(1, 0));
    }

    private static Waxrow houseOfTwoWithNearlyDone() {
        Waxrow x = houseOfTwoWithFrame();
        x.work(2, 9);
        x.pass(3, 0, 0);
        return x;
    }

    private static void swapNeedsBothInTheStore() {
        Checks.refused("first shown", FiguresEdgesTest::houseOfTwoWithOneShown, Checks.STATE, x -> x.swap(0, 1));
        Checks.refused("second shown", FiguresEdgesTest::houseOfTwoWithOneShown, Checks.STATE, x -> x.swap(1, 0));
        Checks.refused("first on tour", FiguresEdgesTest::houseOfTwoWithOneOnTour, Checks.STATE,
                x -> x.swap(0, 1));
        Checks.refused("second on tour", FiguresEdgesTest::houseOfTwoWithOneOnTour, Checks.STATE,
                x -> x.swap(1, 0));
    }

    private static void meltedIsForGood() {
        Waxrow x = houseOfTwoWithOneMelted();
        Checks.due("place", 7, x.ofFigure(0, 8));
        x.pass(40, 2000, 40);
        Checks.due("place later", 7, x.ofFigure(0, 8));
        Checks.due("done", 1, x.many(3));
        Checks.due("figures", 2, x.many(2));
        Checks.refused("melted again", FiguresEdgesTest::houseOfTwoWithOneMelted, Checks.STATE, h -> h.melt(0));
        Checks.refused("mended", FiguresEdgesTest::houseOfTwoWithOneMelted, Checks.STATE, h -> h.mend(0));
        Checks.refused("sent on tour", FiguresEdgesTest::houseOfTwoWithOneMelted, Checks.STATE,
                h -> h.tour(0, 1, 1));
        Checks.refused("shown", FiguresEdgesTest::houseOfTwoWithOneMelted, Checks.STATE, h -> h.show(0, 0));
        Checks.refused("taken", FiguresEdgesTest::houseOfTwoWithOneMelted, Checks.STATE, h -> h.take(0));
    }

    private static void meltedKeepsItsStepAndWork() {
        Waxrow x = houseOfFrame();
        x.work(0, 7);
        x.pass(1, 0, 0);
        x.melt(0);
        Checks.due("step", 1, x.ofFigure(0, 2));
        Checks.due("work that it needs yet", 7, x.ofFigure(0, 3));
        Checks.due("step of one that was done", 6, houseOfTwoWithOneMelted().ofFigure(0, 2));
        Checks.due("work of one that was done", 0, houseOfTwoWithOneMelted().ofFigure(0, 3));
    }

    private static void meltGivesWaxFromStepFourOn() {
        int[] days = {18, 19, 35, 36};
        int[] steps = {3, 4, 5, 6};
        int[] wax = {30, 50, 50, 50};
        for (int i = 0; i < days.length; i++) {
            Waxrow x = houseOfFrame();
            x.work(0, 1);
            x.pass(days[i], 0, 0);
            Checks.due("step", steps[i], x.ofFigure(0, 2));
            Checks.due("wax of step " + steps[i], wax[i], x.melt(0));
            Checks.due("wax kept", wax[i], x.many(9));
        }
        Checks.due("wax of a frame without work", 30, houseOfFrame().melt(0));
        Waxrow x = houseOfTwo();
        Checks.wearOnTour(x, 0, 60);
        Checks.due("wear does not matter", 50, x.melt(0));
        Checks.due("twice", 70, x.melt(1));
    }

    private static void meltNeedsTheStore() {
        Checks.refused("shown", FiguresEdgesTest::houseOfTwoWithOneShown, Checks.STATE, x -> x.melt(0));
        Checks.refused("on tour", FiguresEdgesTest::houseOfTwoWithOneOnTour, Checks.STATE, x -> x.melt(0));
        Checks.accepted("a frame", FiguresEdgesTest::houseOfFrame, x -> x.melt(0));
    }

    /** Figure 0 is done, in the store, and so worn. */
    private static Waxrow houseWithWorn(int wear) {
        Waxrow x = houseOfTwo();
        if (wear > 0) {
            Checks.wearInRoom(x, 0, 0, wear);
        }
        return x;
    }

    private static void mendTakesWholeTens() {
        int[] worn = {0, 9, 10, 11, 19, 20, 29, 30};
        int[] left = {0, 9, 0, 1, 9, 0, 9, 0};
        int[] wax = {30, 30, 20, 20, 20, 10, 10, 0};
        for (int i = 0; i < worn.length; i++) {
            Waxrow x = houseWithWorn(worn[i]);
            Checks.due("mended from " + worn[i], left[i], x.mend(0));
            Checks.due("wear", left[i], x.ofFigure(0, 6));
            Checks.due("wax behind " + worn[i], wax[i], x.many(9));
        }
    }

    private static void mendGoesAsFarAsThereIsWax() {
        Waxrow x = houseWithWorn(39);
        Checks.due("just enough", 9, x.mend(0));
        Checks.due("wax", 0, x.many(9));
        Waxrow y = houseWithWorn(40);
        Checks.due("one ten too much", 10, y.mend(0));
        Checks.due("wax of that", 0, y.many(9));
        Checks.due("without wax", 10, y.mend(0));
        y.melt(1);
        Checks.due("with wax of another one", 0, y.mend(0));
        Checks.due("wax of the other one", 10, y.many(9));
        Waxrow z = houseWithWorn(99);
        Checks.due("much too much", 69, z.mend(0));
    }

    private static void mendNeedsOneDoneInTheStore() {
        Checks.refused("not done", FiguresEdgesTest::houseOfTwoWithFrame, Checks.STATE, x -> x.mend(2));
        Checks.refused("one day ahead", FiguresEdgesTest::houseOfTwoWithNearlyDone, Checks.STATE, x -> x.mend(2));
        Checks.refused("shown", FiguresEdgesTest::houseOfTwoWithOneShown, Checks.STATE, x -> x.mend(0));
        Checks.refused("on tour", FiguresEdgesTest::houseOfTwoWithOneOnTour, Checks.STATE, x -> x.mend(0));
        Checks.accepted("without consent", FiguresEdgesTest::houseOfTwo, x -> x.consent(0, false) + x.mend(0));
    }

    private static void tourNeedsConsentOfTheHead() {
        Checks.refused("no consent", FiguresEdgesTest::houseWithoutConsent, Checks.STATE, x -> x.tour(0, 1, 1));
        Waxrow x = houseWithoutConsent();
        x.swap(0, 1);
        Checks.due("not that of the body", 84, x.tour(0, 1, 1));
        Checks.refused("that of the head", FiguresEdgesTest::swappedHouseWithoutConsent, Checks.STATE,
                h -> h.tour(1, 1, 1));
        Waxrow y = houseWithoutConsent();
        y.consent(0, true);
        Checks.due("given anew", 100, y.tour(0, 1, 1));
    }

    private static Waxrow houseWithoutConsent() {
        Waxrow x = houseOfTwo();
        x.consent(0, false);
        return x;
    }

    private static Waxrow swappedHouseWithoutConsent() {
        Waxrow x = houseWithoutConsent();
        x.swap(0, 1);
        return x;
    }

    private static void tourNeedsOneDoneInTheStore() {
        Checks.refused("not done", FiguresEdgesTest::houseOfTwoWithFrame, Checks.STATE, x -> x.tour(2, 1, 1));
        Checks.refused("one day ahead", FiguresEdgesTest::houseOfTwoWithNearlyDone, Checks.STATE,
                x -> x.tour(2, 1, 1));
        Checks.refused("shown", FiguresEdgesTest::houseOfTwoWithOneShown, Checks.STATE, x -> x.tour(0, 1, 1));
        Checks.refused("on tour", FiguresEdgesTest::houseOfTwoWithOneOnTour, Checks.STATE, x -> x.tour(0, 1, 1));
    }

    private static void tourTakesAFigureOfAnyLikeness() {
        Waxrow x = houseOfFrame();
        x.work(0, 9);
        x.pass(4, 0, 0);
        Checks.due("likeness 1", 1, x.tour(0, 2, 60));
        Checks.due("on tour", 6, x.ofFigure(0, 8));
        Checks.due("days", 60, x.ofFigure(0, 9));
    }

    private static void refusedTourLeavesTheTourAsItIs() {
        Waxrow x = new Waxrow();
        x.person(0, 900, 100);
        for (int measure = 0; measure < 6; measure++) {
            x.measure(0, measure, 50, 0);
        }
        x.consent(0, true);
        Checks.doneFigure(x, 0);
        x.tour(0, 1, 5);
        Checks.refused("another tour", x, Checks.STATE, () -> x.tour(0, 2, 60));
        Checks.refused("another land", x, Checks.ARGUMENT, () -> x.tour(0, 3, 5));
        Checks.due("days", 5, x.ofFigure(0, 9));
        x.pass(1, 0, 0);
        Checks.due("money of the land 1", 290, x.many(8));
    }
}
