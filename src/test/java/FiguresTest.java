/** Promises 8 to 13: figure, work, swap, mend, melt, tour. */
public final class FiguresTest {
    public static void main(String[] args) {
        figureIsBegun();
        figureIsRefused();
        workGoesThroughTheSteps();
        workIsRefused();
        flawIsKeptAtStepOne();
        likenessIsNotBelowZero();
        swapGivesHeadAndFlaw();
        swapIsRefused();
        mendTakesWaxAsFarAsThereIs();
        mendIsRefused();
        meltGivesWaxOfDoneOrHighSteps();
        meltedKeepsItsStepAndWork();
        meltIsRefused();
        tourGoesAndComesBack();
        tourIsRefused();
        Checks.finish();
    }

    private static void figureIsBegun() {
        Waxrow x = new Waxrow();
        x.person(0, 0, 0);
        x.person(0, 0, 0);
        Checks.due("first", 0, x.figure(1));
        Checks.due("second", 1, x.figure(0));
        int[] first = {1, 1, 0, 4, 0, 0, 0, 0, 5, 0, 0, 0};
        for (int what = 0; what < first.length; what++) {
            Checks.due("ofFigure(0, " + what + ") at first", first[what], x.ofFigure(0, what));
        }
    }

    private static void figureIsRefused() {
        Waxrow x = new Waxrow();
        x.person(0, 0, 0);
        Checks.refused("no such person", x, Checks.INDEX, () -> x.figure(1));
        Checks.refused("person -1", x, Checks.INDEX, () -> x.figure(-1));
        for (int i = 0; i < 8; i++) {
            Checks.due("number", i, x.figure(0));
        }
        Checks.refused("a ninth", x, Checks.STATE, () -> x.figure(0));
        x.melt(3);
        Checks.refused("a ninth behind a melted one", x, Checks.STATE, () -> x.figure(0));
        Checks.refused("a ninth of nobody", x, Checks.INDEX, () -> x.figure(1));
    }

    private static void workGoesThroughTheSteps() {
        Waxrow x = new Waxrow();
        x.person(0, 0, 0);
        x.figure(0);
        x.figure(0);
        Checks.due("hands", 1, x.work(0, 1));
        int[] needs = {4, 10, 3, 2, 12, 5};
        for (int step = 0; step < needs.length; step++) {
            for (int left = needs[step]; left > 0; left--) {
                Checks.due("step", step, x.ofFigure(0, 2));
                Checks.due("work left of step " + step, left, x.ofFigure(0, 3));
                Checks.due("done by the day", left == 1 && step == 5 ? 1 : 0, x.pass(1, 0, 0));
            }
        }
        Checks.due("step when done", 6, x.ofFigure(0, 2));
        Checks.due("work left when done", 0, x.ofFigure(0, 3));
        Checks.due("hands when done", 0, x.ofFigure(0, 4));
        Checks.due("the other one is as it was", 4, x.ofFigure(1, 3));
        Checks.due("hands anew", 9, x.work(1, 9));
        x.pass(2, 0, 0);
        Checks.due("several steps in a day", 3, x.ofFigure(1, 2));
        Checks.due("what goes over", 1, x.ofFigure(1, 3));
        Checks.due("fewer hands", 2, x.work(1, 2));
        Checks.due("no hands", 0, x.work(1, 0));
        x.pass(5, 0, 0);
        Checks.due("nothing is done without hands", 1, x.ofFigure(1, 3));
    }

    private static void workIsRefused() {
        Waxrow x = new Waxrow();
        x.person(0, 0, 0);
        x.figure(0);
        x.figure(0);
        x.figure(0);
        Checks.due("nine", 9, x.work(0, 9));
        Checks.due("twelve", 12, x.work(1, 3));
        Checks.refused("thirteen", x, Checks.STATE, () -> x.work(2, 1));
        Checks.refused("thirteen by more", x, Checks.STATE, () -> x.work(1, 4));
        Checks.refused("no such figure", x, Checks.INDEX, () -> x.work(3, 10));
        Checks.refused("figure -1", x, Checks.INDEX, () -> x.work(-1, 0));
        Checks.refused("ten hands", x, Checks.ARGUMENT, () -> x.work(2, 10));
        Checks.refused("hands -1", x, Checks.ARGUMENT, () -> x.work(2, -1));
        Checks.due("told anew, the old hands count no more", 12, x.work(0, 9));
        x.pass(4, 0, 0);
        Checks.refused("done", x, Checks.STATE, () -> x.work(0, 0));
        Checks.refused("done, and ten hands", x, Checks.ARGUMENT, () -> x.work(0, 10));
        x.melt(1);
        Checks.refused("melted", x, Checks.STATE, () -> x.work(1, 0));
        Checks.due("hands of the melted one are free", 9, x.work(2, 9));
    }

    private static void flawIsKeptAtStepOne() {
        Waxrow x = new Waxrow();
        x.person(0, 0, 0);
        x.figure(0);
        x.work(0, 3);
        x.pass(1, 0, 0);
        Checks.due("flaw ahead of step 1", 0, x.ofFigure(0, 5));
        x.measure(0, 0, 50, 0);
        x.pass(1, 0, 0);
        Checks.due("doubt by then", 82, x.ofFigure(0, 5));
        x.measure(0, 1, 50, 0);
        x.pass(1, 0, 0);
        Checks.due("later doubt leaves it", 82, x.ofFigure(0, 5));
        Checks.due("doubt now", 66, x.ofPerson(0, 8));
    }

    private static void likenessIsNotBelowZero() {
        Waxrow x = new Waxrow();
        x.person(500, 500, 500);
        x.consent(0, true);
        Checks.doneFigure(x, 0);
        Checks.due("a flaw of 99", 1, x.ofFigure(0, 7));
        Checks.wearOnTour(x, 0, 2);
        Checks.due("a wear of 2, too", 0, x.ofFigure(0, 7));
        Checks.wearOnTour(x, 0, 20);
        Checks.due("0 at least", 0, x.ofFigure(0, 7));
        Checks.due("nothing to see on tour", 0, x.tour(0, 1, 1));
    }

    /** Figure 0 of a small person without doubt, figure 1 of a tall one with a doubt of 6. */
    private static Waxrow houseOfTwo() {
        Waxrow x = new Waxrow();
        Checks.doneFigure(x, Checks.measuredPerson(x, 300, 40, 0));
        Checks.doneFigure(x, Checks.measuredPerson(x, 700, 61, 3));
        return x;
    }

    private static void swapGivesHeadAndFlaw() {
        Waxrow x = houseOfTwo();
        Checks.wearOnTour(x, 0, 6);
        // Flaw 6, wear 6 and heights that are 42 apart: 100 - 6 - 3 - 10.
        Checks.due("likeness of the first", 81, x.swap(0, 1));
        Checks.due("head of the first", 1, x.ofFigure(0, 0));
        Checks.due("body of the first", 0, x.ofFigure(0, 1));
        Checks.due("flaw of the first", 6, x.ofFigure(0, 5));
        Checks.due("wear of the first stays", 6, x.ofFigure(0, 6));
        Checks.due("head of the second", 0, x.ofFigure(1, 0));
        Checks.due("body of the second", 1, x.ofFigure(1, 1));
        Checks.due("flaw of the second", 0, x.ofFigure(1, 5));
        Checks.due("likeness of the second", 90, x.ofFigure(1, 7));
        x.measure(1, 5, 99, 0);
        Checks.due("a height that is known anew", 62, x.ofFigure(0, 7));
        Checks.due("swapped back", 94, x.swap(1, 0));
        Checks.due("head of the first again", 0, x.ofFigure(0, 0));
        Checks.due("likeness of the first again", 97, x.ofFigure(0, 7));
    }

    private static void swapIsRefused() {
        Waxrow x = houseOfTwo();
        x.figure(0);
        Checks.refused("no such first", x, Checks.INDEX, () -> x.swap(3, 0));
        Checks.refused("no such second", x, Checks.INDEX, () -> x.swap(0, 3));
        Checks.refused("first -1", x, Checks.INDEX, () -> x.swap(-1, 0));
        Checks.refused("second -1", x, Checks.INDEX, () -> x.swap(0, -1));
        Checks.refused("none twice", x, Checks.INDEX, () -> x.swap(3, 3));
        Checks.refused("the same", x, Checks.ARGUMENT, () -> x.swap(1, 1));
        Checks.refused("the same, not done", x, Checks.ARGUMENT, () -> x.swap(2, 2));
        Checks.refused("second not done", x, Checks.STATE, () -> x.swap(0, 2));
        Checks.refused("first not done", x, Checks.STATE, () -> x.swap(2, 0));
        x.show(0, x.room(0, 1));
        Checks.refused("first shown", x, Checks.STATE, () -> x.swap(0, 1));
        Checks.refused("second shown", x, Checks.STATE, () -> x.swap(1, 0));
        x.take(0);
        x.tour(0, 1, 1);
        Checks.refused("first on tour", x, Checks.STATE, () -> x.swap(0, 1));
        x.pass(1, 0, 0);
        x.melt(0);
        Checks.refused("first melted", x, Checks.STATE, () -> x.swap(0, 1));
    }

    private static void mendTakesWaxAsFarAsThereIs() {
        Waxrow x = houseOfTwo();
        Checks.due("nothing to mend", 0, x.mend(0));
        Checks.wearOnTour(x, 0, 18);
        Checks.due("each whole ten", 8, x.mend(0));
        Checks.due("wax for it", 20, x.many(9));
        Checks.due("less than ten stays", 8, x.mend(0));
        Checks.due("wax stays", 20, x.many(9));
        Checks.wearOnTour(x, 1, 40);
        Checks.due("as far as there is", 20, x.mend(1));
        Checks.due("no wax", 0, x.many(9));
        Checks.due("without wax", 20, x.mend(1));
    }

    private static void mendIsRefused() {
        Waxrow x = houseOfTwo();
        x.figure(0);
        Checks.refused("no such figure", x, Checks.INDEX, () -> x.mend(3));
        Checks.refused("figure -1", x, Checks.INDEX, () -> x.mend(-1));
        Checks.refused("not done", x, Checks.STATE, () -> x.mend(2));
        Checks.wearOnTour(x, 0, 20);
        x.show(0, x.room(0, 1));
        Checks.refused("shown", x, Checks.STATE, () -> x.mend(0));
        x.tour(1, 1, 5);
        Checks.refused("on tour", x, Checks.STATE, () -> x.mend(1));
        x.take(0);
        x.melt(0);
        Checks.refused("melted", x, Checks.STATE, () -> x.mend(0));
    }

    private static void meltGivesWaxOfDoneOrHighSteps() {
        int[] work = {0, 3, 4, 14, 17, 18, 19, 31, 36};
        int[] wax = {30, 30, 30, 30, 30, 30, 50, 50, 50};
        for (int i = 0; i < work.length; i++) {
            Waxrow x = new Waxrow();
            x.person(0, 0, 0);
            x.figure(0);
            x.work(0, 1);
            if (work[i] > 0) {
                x.pass(work[i], 0, 0);
            }
            Checks.due("wax behind " + work[i] + " of work", wax[i], x.melt(0));
            Checks.due("wax kept", wax[i], x.many(9));
            Checks.due("melted", 7, x.ofFigure(0, 8));
        }
    }

    private static void meltedKeepsItsStepAndWork() {
        Waxrow x = new Waxrow();
        x.person(0, 0, 0);
        x.figure(0);
        x.work(0, 7);
        x.pass(1, 0, 0);
        x.melt(0);
        int[] melted = {0, 0, 1, 7, 0, 99, 0, 0, 7, 0, 0, 0};
        for (int what = 0; what < melted.length; what++) {
            Checks.due("ofFigure(0, " + what + ") melted", melted[what], x.ofFigure(0, what));
        }
        Checks.due("no day works on it", 0, x.pass(40, 0, 0));
        Checks.due("work left stays", 7, x.ofFigure(0, 3));
        Waxrow y = houseOfTwo();
        Checks.wearOnTour(y, 1, 4);
        y.melt(1);
        int[] done = {1, 1, 6, 0, 0, 6, 4, 0, 7, 0, 0, 0};
        for (int what = 0; what < done.length; what++) {
            Checks.due("ofFigure(1, " + what + ") melted", done[what], y.ofFigure(1, what));
        }
        Checks.due("done are fewer", 1, y.many(3));
        Checks.due("figures are as many", 2, y.many(2));
    }

    private static void meltIsRefused() {
        Waxrow x = houseOfTwo();
        Checks.refused("no such figure", x, Checks.INDEX, () -> x.melt(2));
        Checks.refused("figure -1", x, Checks.INDEX, () -> x.melt(-1));
        x.show(0, x.room(0, 1));
        Checks.refused("shown", x, Checks.STATE, () -> x.melt(0));
        x.tour(1, 1, 5);
        Checks.refused("on tour", x, Checks.STATE, () -> x.melt(1));
        x.take(0);
        Checks.due("wax", 50, x.melt(0));
        Checks.refused("melted", x, Checks.STATE, () -> x.melt(0));
    }

    private static void tourGoesAndComesBack() {
        Waxrow x = new Waxrow();
        x.person(0, 900, 50);
        for (int measure = 0; measure < 6; measure++) {
            x.measure(0, measure, 50, 5);
        }
        x.consent(0, true);
        Checks.doneFigure(x, 0);
        Checks.due("likeness", 90, x.tour(0, 1, 3));
        Checks.due("on tour", 6, x.ofFigure(0, 8));
        Checks.due("days left", 3, x.ofFigure(0, 9));
        Checks.due("no draw", 0, x.ofFigure(0, 10));
        x.pass(1, 0, 0);
        Checks.due("days left behind one", 2, x.ofFigure(0, 9));
        Checks.due("wear behind one", 2, x.ofFigure(0, 6));
        // 900 * 90 / 1000, with the likeness as it was ahead of the day's wear.
        Checks.due("money behind one", 281, x.many(8));
        x.pass(1, 0, 0);
        Checks.due("money behind two", 361, x.many(8));
        Checks.due("still on tour", 6, x.ofFigure(0, 8));
        x.pass(1, 0, 0);
        Checks.due("money behind three", 440, x.many(8));
        Checks.due("in the store", 5, x.ofFigure(0, 8));
        Checks.due("no days left", 0, x.ofFigure(0, 9));
        x.pass(1, 0, 0);
        Checks.due("no more wear", 6, x.ofFigure(0, 6));
        Checks.due("sixty days", 87, x.tour(0, 2, 60));
        x.pass(40, 0, 0);
        x.pass(19, 0, 0);
        Checks.due("99 at most", 99, x.ofFigure(0, 6));
        Checks.due("one day left", 1, x.ofFigure(0, 9));
        Checks.due("not melted", 0, x.pass(1, 0, 0));
        Checks.due("back", 5, x.ofFigure(0, 8));
    }

    private static void tourIsRefused() {
        Waxrow x = houseOfTwo();
        x.figure(0);
        Checks.refused("no such figure", x, Checks.INDEX, () -> x.tour(3, 0, 0));
        Checks.refused("figure -1", x, Checks.INDEX, () -> x.tour(-1, 1, 1));
        Checks.refused("land 0", x, Checks.ARGUMENT, () -> x.tour(0, 0, 1));
        Checks.refused("land 3", x, Checks.ARGUMENT, () -> x.tour(0, 3, 1));
        Checks.refused("no days", x, Checks.ARGUMENT, () -> x.tour(0, 1, 0));
        Checks.refused("61 days", x, Checks.ARGUMENT, () -> x.tour(2, 1, 61));
        Checks.refused("not done", x, Checks.STATE, () -> x.tour(2, 1, 1));
        x.show(0, x.room(0, 1));
        Checks.refused("shown", x, Checks.STATE, () -> x.tour(0, 1, 1));
        x.take(0);
        x.consent(0, false);
        Checks.refused("no consent", x, Checks.STATE, () -> x.tour(0, 1, 1));
        x.swap(0, 1);
        Checks.due("the head's consent counts", 84, x.tour(0, 1, 1));
        Checks.refused("on tour", x, Checks.STATE, () -> x.tour(0, 1, 1));
        Checks.refused("the head's missing consent", x, Checks.STATE, () -> x.tour(1, 1, 1));
        x.melt(1);
        x.consent(0, true);
        Checks.refused("melted", x, Checks.STATE, () -> x.tour(1, 1, 1));
    }
}
