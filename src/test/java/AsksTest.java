/** Promises 21 to 26: ofPerson, known, ofFigure, ofRoom, many, meanLikeness. */
public final class AsksTest {
    public static void main(String[] args) {
        ofPersonTells();
        knownTells();
        ofFigureTells();
        ofRoomTells();
        manyTells();
        meanLikenessIsNotCut();
        asksAreRefused();
        Checks.finish();
    }

    /**
     * Figure 0 is shown in room 1, figure 1 in room 0, figure 2 is on tour, figure 3 melted, figure 4 in work,
     * figure 5 done; a day with 1000 visitors went by.
     */
    private static Waxrow busyHouse() {
        Waxrow x = new Waxrow();
        Checks.measuredPerson(x, 800, 50, 0);
        Checks.measuredPerson(x, 400, 40, 2);
        x.person(1, 2, 3);
        Checks.doneFigure(x, 0);
        Checks.doneFigure(x, 1);
        Checks.doneFigure(x, 0);
        Checks.doneFigure(x, 1);
        x.figure(2);
        Checks.doneFigure(x, 0);
        x.room(3, 2);
        x.room(6, 4);
        x.show(0, 1);
        x.show(1, 0);
        x.tour(2, 2, 9);
        x.melt(3);
        x.work(4, 5);
        x.trend(1, 1, -7);
        x.measure(1, 0, 90, 1);
        x.price(10);
        x.pass(1, 1000, 20);
        return x;
    }

    private static void row(String name, int[] due, int[] got) {
        for (int i = 0; i < due.length; i++) {
            Checks.due(name + " of " + i, due[i], got[i]);
        }
    }

    private static int[] ofPerson(Waxrow x, int person) {
        int[] row = new int[11];
        for (int what = 0; what < row.length; what++) {
            row[what] = x.ofPerson(person, what);
        }
        return row;
    }

    private static int[] ofFigure(Waxrow x, int figure) {
        int[] row = new int[12];
        for (int what = 0; what < row.length; what++) {
            row[what] = x.ofFigure(figure, what);
        }
        return row;
    }

    private static int[] ofRoom(Waxrow x, int room) {
        int[] row = new int[4];
        for (int what = 0; what < row.length; what++) {
            row[what] = x.ofRoom(room, what);
        }
        return row;
    }

    private static void ofPersonTells() {
        Waxrow x = busyHouse();
        // 500 come; the draws are 800 and 400 * 96 / 100.
        row("person 0", new int[] {800, 800, 800, 0, 0, 0, 1, 3, 0, 0, 0}, ofPerson(x, 0));
        row("person 1", new int[] {400, 400, 400, 0, -7, 0, 1, 1, 3, 1, 1}, ofPerson(x, 1));
        row("person 2", new int[] {1, 2, 3, 0, 0, 0, 0, 0, 99, 0, -1}, ofPerson(x, 2));
    }

    private static void knownTells() {
        Waxrow x = busyHouse();
        Checks.due("low of a clash", 89, x.known(1, 0, false));
        Checks.due("high of a clash", 91, x.known(1, 0, true));
        Checks.due("low", 38, x.known(1, 5, false));
        Checks.due("high", 42, x.known(1, 5, true));
        Checks.due("low at first", 0, x.known(2, 0, false));
        Checks.due("high at first", 99, x.known(2, 0, true));
    }

    private static void ofFigureTells() {
        Waxrow x = busyHouse();
        row("figure 0", new int[] {0, 0, 6, 0, 0, 0, 8, 96, 1, 0, 768, 337}, ofFigure(x, 0));
        row("figure 1", new int[] {1, 1, 6, 0, 0, 4, 4, 94, 0, 0, 376, 162}, ofFigure(x, 1));
        row("figure 2", new int[] {0, 0, 6, 0, 0, 0, 2, 99, 6, 8, 0, 0}, ofFigure(x, 2));
        row("figure 3", new int[] {1, 1, 6, 0, 0, 4, 0, 0, 7, 0, 0, 0}, ofFigure(x, 3));
        row("figure 4", new int[] {2, 2, 1, 9, 5, 99, 0, 0, 5, 0, 0, 0}, ofFigure(x, 4));
        row("figure 5", new int[] {0, 0, 6, 0, 0, 0, 0, 100, 5, 0, 0, 0}, ofFigure(x, 5));
    }

    private static void ofRoomTells() {
        Waxrow x = busyHouse();
        row("room 0", new int[] {3, 2, 1, 376}, ofRoom(x, 0));
        row("room 1", new int[] {6, 4, 3, 768}, ofRoom(x, 1));
        x.take(1);
        x.show(1, 1);
        row("room 0, empty", new int[] {3, 2, 2, 0}, ofRoom(x, 0));
        row("room 1 with two", new int[] {6, 4, 2, 1144}, ofRoom(x, 1));
    }

    private static void manyTells() {
        Waxrow x = busyHouse();
        int[] got = new int[15];
        for (int what = 0; what < got.length; what++) {
            got[what] = x.many(what);
        }
        row("many", new int[] {21, 3, 6, 4, 2, 1, 1, 2, 5280, 50, 4, 500, 5, 10, 1144}, got);
    }

    private static void meanLikenessIsNotCut() {
        Waxrow x = busyHouse();
        Checks.due("of two", 95.0, x.meanLikeness());
        x.pass(1, 0, 20);
        Checks.due("with a half", 94.5, x.meanLikeness());
        x.take(0);
        Checks.due("of one", 94.0, x.meanLikeness());
        x.take(1);
        Checks.due("of none", 0.0, x.meanLikeness());
    }

    private static void asksAreRefused() {
        Waxrow x = busyHouse();
        int[] wrongIndexes = {-1, 6, Integer.MIN_VALUE, Integer.MAX_VALUE};
        for (int i : wrongIndexes) {
            Checks.refused("person " + i, x, Checks.INDEX, () -> x.ofPerson(i, 11));
            Checks.refused("known of person " + i, x, Checks.INDEX, () -> x.known(i, 0, true));
            Checks.refused("measure " + i, x, Checks.INDEX, () -> x.known(0, i, false));
            Checks.refused("figure " + i, x, Checks.INDEX, () -> x.ofFigure(i, 12));
            Checks.refused("room " + i, x, Checks.INDEX, () -> x.ofRoom(i, 4));
        }
        Checks.refused("person 3", x, Checks.INDEX, () -> x.ofPerson(3, 0));
        Checks.refused("room 2", x, Checks.INDEX, () -> x.ofRoom(2, 0));
        int[] below = {-1, Integer.MIN_VALUE};
        for (int what : below) {
            Checks.refused("of a person " + what, x, Checks.ARGUMENT, () -> x.ofPerson(0, what));
            Checks.refused("of a figure " + what, x, Checks.ARGUMENT, () -> x.ofFigure(0, what));
            Checks.refused("of a room " + what, x, Checks.ARGUMENT, () -> x.ofRoom(0, what));
            Checks.refused("many " + what, x, Checks.ARGUMENT, () -> x.many(what));
        }
        Checks.refused("of a person 11", x, Checks.ARGUMENT, () -> x.ofPerson(0, 11));
        Checks.refused("of a figure 12", x, Checks.ARGUMENT, () -> x.ofFigure(0, 12));
        Checks.refused("of a room 4", x, Checks.ARGUMENT, () -> x.ofRoom(0, 4));
        Checks.refused("many 15", x, Checks.ARGUMENT, () -> x.many(15));
    }
}
