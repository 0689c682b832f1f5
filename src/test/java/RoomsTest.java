/** Promises 14 to 19: room, lamps, show, take, clean, price. */
public final class RoomsTest {
    public static void main(String[] args) {
        roomIsTold();
        roomIsRefused();
        lampsAreToldAnew();
        showAnswersTheDraw();
        showNeedsALikenessOfThirty();
        showIsRefused();
        takeGivesTheRoom();
        cleanCostsFive();
        priceIsTold();
        Checks.finish();
    }

    private static void roomIsTold() {
        Waxrow x = new Waxrow();
        Checks.due("first", 0, x.room(9, 4));
        Checks.due("second", 1, x.room(0, 1));
        int[] first = {9, 4, 4, 0};
        for (int what = 0; what < first.length; what++) {
            Checks.due("ofRoom(0, " + what + ")", first[what], x.ofRoom(0, what));
        }
        Checks.due("lamps of the second", 0, x.ofRoom(1, 0));
        Checks.due("spots of the second", 1, x.ofRoom(1, 1));
    }

    private static void roomIsRefused() {
        Waxrow x = new Waxrow();
        Checks.refused("lamps 10", x, Checks.ARGUMENT, () -> x.room(10, 1));
        Checks.refused("lamps -1", x, Checks.ARGUMENT, () -> x.room(-1, 1));
        Checks.refused("spots 0", x, Checks.ARGUMENT, () -> x.room(0, 0));
        Checks.refused("spots 5", x, Checks.ARGUMENT, () -> x.room(0, 5));
        for (int i = 0; i < 5; i++) {
            Checks.due("number", i, x.room(i, 1));
        }
        Checks.refused("a sixth", x, Checks.STATE, () -> x.room(0, 1));
        Checks.refused("a sixth with wrong spots", x, Checks.ARGUMENT, () -> x.room(0, 5));
    }

    private static void lampsAreToldAnew() {
        Waxrow x = new Waxrow();
        x.room(3, 1);
        x.room(4, 1);
        Checks.due("before", 3, x.lamps(0, 9));
        Checks.due("before that", 9, x.lamps(0, 0));
        Checks.due("now", 0, x.ofRoom(0, 0));
        Checks.due("the other room's stay", 4, x.ofRoom(1, 0));
        Checks.refused("no such room", x, Checks.INDEX, () -> x.lamps(2, 10));
        Checks.refused("room -1", x, Checks.INDEX, () -> x.lamps(-1, 0));
        Checks.refused("lamps 10", x, Checks.ARGUMENT, () -> x.lamps(0, 10));
        Checks.refused("lamps -1", x, Checks.ARGUMENT, () -> x.lamps(0, -1));
    }

    private static void showAnswersTheDraw() {
        Waxrow x = new Waxrow();
        int person = Checks.measuredPerson(x, 505, 50, 1);
        int figure = Checks.doneFigure(x, person);
        x.room(0, 2);
        x.room(0, 2);
        Checks.due("505 times 98, divided by 100", 494, x.show(figure, 1));
        Checks.due("where it is", 1, x.ofFigure(figure, 8));
        Checks.due("free spots there", 1, x.ofRoom(1, 2));
        Checks.due("free spots elsewhere", 2, x.ofRoom(0, 2));
        Checks.due("who is shown", figure, x.ofPerson(person, 10));
        Checks.due("all draws there", 494, x.ofRoom(1, 3));
    }

    /** A figure with this flaw, done and in the store, its person gives consent; room 0 is free. */
    private static Waxrow houseWithFlaw(int flaw) {
        Waxrow x = new Waxrow();
        x.person(999, 0, 0);
        x.consent(0, true);
        int rest = flaw * 6;
        for (int measure = 0; measure < 6; measure++) {
            // What is left of the doubt is spread over the measures: 99 each, then a part, then 0.
            int width = Math.min(rest, 99);
            rest -= width;
            narrowTo(x, measure, width);
        }
        Checks.doneFigure(x, 0);
        x.room(0, 1);
        Checks.due("flaw", flaw, x.ofFigure(0, 5));
        return x;
    }

    private static void narrowTo(Waxrow x, int measure, int width) {
        if (width == 99) {
            return;
        }
        if (width > 40) {
            throw new AssertionError("no such width in this test: " + width);
        }
        if (width > 20) {
            // One measure reaches from 0 to 40; a second one cuts that at the width.
            x.measure(0, measure, 20, 20);
            x.measure(0, measure, width - 20, 20);
        } else {
            x.measure(0, measure, 0, width);
        }
    }

    private static void showNeedsALikenessOfThirty() {
        Waxrow fits = houseWithFlaw(70);
        Checks.due("likeness 30", 30, fits.ofFigure(0, 7));
        Checks.due("is shown", 299, fits.show(0, 0));
        Waxrow misses = houseWithFlaw(71);
        Checks.due("likeness 29", 29, misses.ofFigure(0, 7));
        Checks.refused("likeness 29", misses, Checks.STATE, () -> misses.show(0, 0));
    }

    private static void showIsRefused() {
        Waxrow x = Checks.houseThatShows(500, 0);
        x.room(0, 4);
        Checks.doneFigure(x, 0);
        Checks.doneFigure(x, Checks.measuredPerson(x, 300, 50, 0));
        x.figure(1);
        Checks.refused("no such figure", x, Checks.INDEX, () -> x.show(4, 0));
        Checks.refused("figure -1", x, Checks.INDEX, () -> x.show(-1, 0));
        Checks.refused("no such room", x, Checks.INDEX, () -> x.show(0, 2));
        Checks.refused("room -1", x, Checks.INDEX, () -> x.show(0, -1));
        Checks.refused("shown already", x, Checks.STATE, () -> x.show(0, 1));
        Checks.refused("the same head is shown", x, Checks.STATE, () -> x.show(1, 1));
        Checks.refused("no spot is free", x, Checks.STATE, () -> x.show(2, 0));
        Checks.refused("not done", x, Checks.STATE, () -> x.show(3, 1));
        x.consent(1, false);
        Checks.refused("no consent", x, Checks.STATE, () -> x.show(2, 1));
        x.consent(1, true);
        x.tour(2, 1, 1);
        Checks.refused("on tour", x, Checks.STATE, () -> x.show(2, 1));
        x.pass(1, 0, 0);
        x.swap(1, 2);
        Checks.refused("the same head on another body", x, Checks.STATE, () -> x.show(2, 1));
        Checks.due("another head on the same body", 300, x.show(1, 1));
        x.take(1);
        x.melt(1);
        Checks.refused("melted", x, Checks.STATE, () -> x.show(1, 1));
        x.take(0);
        Checks.due("the spot is free again", 495, x.show(2, 0));
    }

    private static void takeGivesTheRoom() {
        Waxrow x = new Waxrow();
        Checks.doneFigure(x, Checks.measuredPerson(x, 500, 50, 0));
        x.room(0, 1);
        x.room(0, 1);
        x.show(0, 1);
        Checks.due("room", 1, x.take(0));
        Checks.due("in the store", 5, x.ofFigure(0, 8));
        Checks.due("the spot is free", 1, x.ofRoom(1, 2));
        Checks.refused("in the store", x, Checks.STATE, () -> x.take(0));
        Checks.refused("no such figure", x, Checks.INDEX, () -> x.take(1));
        Checks.refused("figure -1", x, Checks.INDEX, () -> x.take(-1));
        x.tour(0, 1, 2);
        Checks.refused("on tour", x, Checks.STATE, () -> x.take(0));
        x.pass(2, 0, 0);
        x.melt(0);
        Checks.refused("melted", x, Checks.STATE, () -> x.take(0));
    }

    private static void cleanCostsFive() {
        Waxrow x = Checks.houseThatShows(500, 9);
        Checks.doneFigure(x, Checks.measuredPerson(x, 300, 50, 0));
        x.show(1, x.room(9, 1));
        x.pass(3, 0, 0);
        Checks.due("wear", 21, x.ofFigure(0, 6));
        Checks.due("money", 195, x.clean(0));
        Checks.due("six less", 15, x.ofFigure(0, 6));
        Checks.due("not in the other room", 9, x.ofFigure(1, 6));
        Checks.due("money of many", 195, x.many(8));
        x.clean(1);
        Checks.due("an own turn for the other room", 3, x.ofFigure(1, 6));
        Checks.due("its money", 185, x.clean(1));
        Checks.due("0 at least", 0, x.ofFigure(1, 6));
        x.take(1);
        Checks.due("an empty room costs, too", 180, x.clean(1));
        for (int i = 0; i < 36; i++) {
            x.clean(1);
        }
        Checks.due("money below 0", -5, x.clean(1));
        Checks.refused("no such room", x, Checks.INDEX, () -> x.clean(2));
        Checks.refused("room -1", x, Checks.INDEX, () -> x.clean(-1));
    }

    private static void priceIsTold() {
        Waxrow x = new Waxrow();
        Checks.due("at first", 5, x.price(20));
        Checks.due("before", 20, x.price(0));
        Checks.due("before that", 0, x.price(7));
        Checks.due("now", 7, x.many(13));
        Checks.refused("price 21", x, Checks.ARGUMENT, () -> x.price(21));
        Checks.refused("price -1", x, Checks.ARGUMENT, () -> x.price(-1));
    }
}
