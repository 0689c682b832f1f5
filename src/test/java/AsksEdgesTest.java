/** Promises 21 to 26: a test for each answer that names an edge. */
public final class AsksEdgesTest {
    public static void main(String[] args) {
        ofPersonTellsConsentAsOneOrZero();
        ofPersonTellsWhichIsShown();
        ofFigureTellsNoWorkWithStepSix();
        ofFigureTellsEachPlace();
        ofFigureTellsDaysOnTourAlone();
        ofFigureTellsDrawIfShownAlone();
        ofFigureTellsTouchesOfAllDays();
        ofRoomTellsFreeSpotsDownToNone();
        ofRoomTellsDrawsOfThatRoomAlone();
        manyTellsDoneWhereverTheyAre();
        manyTellsFiguresAtEachPlace();
        manyTellsAllDue();
        manyTellsAllHands();
        manyTellsAllDraws();
        meanLikenessIsOfThoseShownAlone();
        meanLikenessIsNotCut();
        meanLikenessCanBeZero();
        asksChangeNothing();
        Checks.finish();
    }

    /** Figure 0 is shown in room 1, figure 1 on tour, figure 2 melted, figure 3 in the store, figure 4 in work. */
    private static Waxrow house() {
        Waxrow x = new Waxrow();
        for (int i = 0; i < 4; i++) {
            Checks.doneFigure(x, Checks.measuredPerson(x, 500 + i, 50, 0));
        }
        x.room(3, 1);
        x.room(6, 2);
        x.show(0, 1);
        x.tour(1, 1, 60);
        x.melt(2);
        x.work(x.figure(2), 4);
        return x;
    }

    private static void ofPersonTellsConsentAsOneOrZero() {
        Waxrow x = new Waxrow();
        x.person(0, 0, 0);
        int[] due = {0, 1, 1, 0, 0};
        boolean[] told = {false, true, true, false, false};
        for (int i = 0; i < due.length; i++) {
            x.consent(0, told[i]);
            Checks.due("consent told " + told[i], due[i], x.ofPerson(0, 6));
        }
    }

    private static void ofPersonTellsWhichIsShown() {
        Waxrow x = house();
        int[] due = {0, -1, -1, -1};
        for (int person = 0; person < due.length; person++) {
            Checks.due("shown of " + person, due[person], x.ofPerson(person, 10));
        }
        x.show(3, 0);
        Checks.due("shown of 3", 3, x.ofPerson(3, 10));
        x.take(0);
        Checks.due("taken", -1, x.ofPerson(0, 10));
    }

    private static void ofFigureTellsNoWorkWithStepSix() {
        Waxrow x = house();
        for (int figure = 0; figure < 4; figure++) {
            Checks.due("step of " + figure, 6, x.ofFigure(figure, 2));
            Checks.due("work of " + figure, 0, x.ofFigure(figure, 3));
        }
        Checks.due("work of the one in work", 4, x.ofFigure(4, 3));
    }

    private static void ofFigureTellsEachPlace() {
        Waxrow x = house();
        int[] due = {1, 6, 7, 5, 5};
        for (int figure = 0; figure < due.length; figure++) {
            Checks.due("place of " + figure, due[figure], x.ofFigure(figure, 8));
        }
    }

    private static void ofFigureTellsDaysOnTourAlone() {
        Waxrow x = house();
        int[] due = {0, 60, 0, 0, 0};
        for (int figure = 0; figure < due.length; figure++) {
            Checks.due("days of " + figure, due[figure], x.ofFigure(figure, 9));
        }
        x.pass(1, 0, 0);
        Checks.due("a day later", 59, x.ofFigure(1, 9));
    }

    private static void ofFigureTellsDrawIfShownAlone() {
        Waxrow x = house();
        int[] due = {500, 0, 0, 0, 0};
        for (int figure = 0; figure < due.length; figure++) {
            Checks.due("draw of " + figure, due[figure], x.ofFigure(figure, 10));
        }
    }

    private static void ofFigureTellsTouchesOfAllDays() {
        Waxrow x = house();
        x.price(0);
        x.pass(3, 7, 0);
        Checks.due("three days", 21, x.ofFigure(0, 11));
        x.take(0);
        x.pass(1, 7, 0);
        Checks.due("kept in the store", 21, x.ofFigure(0, 11));
        x.melt(0);
        Checks.due("kept when melted", 21, x.ofFigure(0, 11));
    }

    private static void ofRoomTellsFreeSpotsDownToNone() {
        Waxrow x = house();
        Checks.due("one of one", 1, x.ofRoom(0, 2));
        Checks.due("one of two", 1, x.ofRoom(1, 2));
        x.show(3, 1);
        Checks.due("none of two", 0, x.ofRoom(1, 2));
        x.take(0);
        x.show(0, 0);
        Checks.due("none of one", 0, x.ofRoom(0, 2));
        Checks.due("one of two again", 1, x.ofRoom(1, 2));
        Checks.due("spots stay", 2, x.ofRoom(1, 1));
    }

    private static void ofRoomTellsDrawsOfThatRoomAlone() {
        Waxrow x = house();
        Checks.due("none", 0, x.ofRoom(0, 3));
        Checks.due("one", 500, x.ofRoom(1, 3));
        x.show(3, 1);
        Checks.due("two", 1003, x.ofRoom(1, 3));
        Checks.due("still none", 0, x.ofRoom(0, 3));
        Checks.due("all", 1003, x.many(14));
    }

    private static void manyTellsDoneWhereverTheyAre() {
        Waxrow x = house();
        Checks.due("shown, on tour, in the store", 3, x.many(3));
        x.pass(8, 0, 0);
        Checks.due("not yet", 3, x.many(3));
        x.pass(1, 0, 0);
        Checks.due("one more", 4, x.many(3));
        x.melt(3);
        Checks.due("one less", 3, x.many(3));
    }

    private static void manyTellsFiguresAtEachPlace() {
        Waxrow x = house();
        Checks.due("figures", 5, x.many(2));
        Checks.due("shown", 1, x.many(4));
        Checks.due("on tour", 1, x.many(5));
        Checks.due("melted", 1, x.many(6));
        x.melt(4);
        x.show(3, 0);
        Checks.due("shown then", 2, x.many(4));
        Checks.due("melted then", 2, x.many(6));
        Checks.passQuietly(x, 60);
        Checks.due("on tour then", 0, x.many(5));
        Checks.due("figures then", 5, x.many(2));
    }

    private static void manyTellsAllDue() {
        Waxrow x = house();
        x.show(3, 0);
        x.price(0);
        x.pass(1, 1003, 0);
        Checks.due("of one", 5, x.ofPerson(0, 7));
        Checks.due("of another", 5, x.ofPerson(3, 7));
        Checks.due("of all", 10, x.many(10));
        x.pay(3);
        Checks.due("behind a pay", 5, x.many(10));
    }

    private static void manyTellsAllHands() {
        Waxrow x = house();
        Checks.due("four", 4, x.many(12));
        x.work(x.figure(0), 8);
        Checks.due("twelve", 12, x.many(12));
        x.pass(9, 0, 0);
        Checks.due("all done", 0, x.many(12));
    }

    private static void manyTellsAllDraws() {
        Waxrow x = house();
        Checks.due("one", 500, x.many(14));
        x.consent(0, false);
        Checks.due("none", 0, x.many(14));
    }

    private static void meanLikenessIsOfThoseShownAlone() {
        Waxrow x = house();
        x.pass(1, 0, 0);
        Checks.due("of one with a wear of 2", 99.0, x.meanLikeness());
        x.take(0);
        Checks.due("of none", 0.0, x.meanLikeness());
    }

    private static void meanLikenessIsNotCut() {
        Waxrow x = new Waxrow();
        for (int i = 0; i < 3; i++) {
            Checks.doneFigure(x, Checks.measuredPerson(x, 500, 50, 0));
        }
        for (int i = 0; i < 3; i++) {
            x.show(i, x.room(i == 1 ? 6 : 0, 1));
        }
        x.pass(1, 0, 0);
        Checks.due("likeness of the second", 99, x.ofFigure(1, 7));
        Checks.due("of 100, 99 and 100", 299 / 3.0, x.meanLikeness());
        x.take(2);
        Checks.due("of 100 and 99", 99.5, x.meanLikeness());
    }

    private static void meanLikenessCanBeZero() {
        Waxrow x = new Waxrow();
        x.person(500, 500, 500);
        x.consent(0, true);
        x.measure(0, 0, 0, 16);
        x.measure(0, 1, 0, 8);
        Checks.doneFigure(x, 0);
        Checks.due("flaw", 70, x.ofFigure(0, 5));
        x.show(0, x.room(3, 1));
        Checks.passQuietly(x, 60);
        Checks.due("likeness", 0, x.ofFigure(0, 7));
        Checks.due("mean of one without likeness", 0.0, x.meanLikeness());
        Checks.due("it is shown all the same", 1, x.many(4));
        Checks.due("without a draw", 0, x.ofFigure(0, 10));
    }

    private static void asksChangeNothing() {
        Waxrow x = house();
        String before = Checks.stateOf(x);
        x.meanLikeness();
        x.bestNext();
        x.digest();
        x.wouldFame(0, 0, 60);
        x.readyIn(4);
        x.meltsIn(0, 2000, 40);
        Checks.due("state", before, Checks.stateOf(x));
    }
}
