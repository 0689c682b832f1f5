/** What the tests share: checks that count what is wrong, and houses that are far enough along to be tested. */
final class Checks {
    static final Class<?> INDEX = IndexOutOfBoundsException.class;
    static final Class<?> ARGUMENT = IllegalArgumentException.class;
    static final Class<?> STATE = IllegalStateException.class;

    private static final int MOST_PRINTED = 60;

    private static int wrong = 0;

    private Checks() {
    }

    interface Call {
        void run();
    }

    /** Makes the same house each time. */
    interface Maker {
        Waxrow make();
    }

    interface CallOn {
        double on(Waxrow x);
    }

    interface CallWith {
        double on(Waxrow x, int argument);
    }

    static void due(String what, long want, long got) {
        if (want != got) {
            tellWrong(what + ": due is " + want + ", answered " + got);
        }
    }

    static void due(String what, double want, double got) {
        if (want != got) {
            tellWrong(what + ": due is " + want + ", answered " + got);
        }
    }

    static void due(String what, String want, String got) {
        if (!want.equals(got)) {
            tellWrong(what + ": due is " + want + ", answered " + got);
        }
    }

    static void holds(String what, boolean is) {
        due(what, "true", String.valueOf(is));
    }

    private static void tellWrong(String text) {
        wrong++;
        if (wrong <= MOST_PRINTED) {
            System.out.println(text);
        }
    }

    /** The call throws an exception of exactly this class, and the house stays as it was. */
    static void refused(String what, Waxrow x, Class<?> type, Call call) {
        String before = stateOf(x);
        due(what, nameOf(type), nameOf(thrownBy(call)));
        due(what + " changes nothing", before, stateOf(x));
    }

    /**
     * The same of a house of its own, so that no object needs more calls than the document promises, beside a twin
     * without that call. The days behind it show what cannot be asked, such as the land of a tour.
     */
    static void refused(String what, Maker house, Class<?> type, CallOn call) {
        Waxrow x = house.make();
        Waxrow twin = house.make();
        due(what, nameOf(type), nameOf(thrownBy(() -> call.on(x))));
        due(what + " changes nothing", stateOf(twin), stateOf(x));
        twin.pass(2, 900, 30);
        x.pass(2, 900, 30);
        due(what + " changes nothing that shows later", twin.digest(), x.digest());
    }

    static void accepted(String what, Maker house, CallOn call) {
        Waxrow x = house.make();
        due(what, nameOf(null), nameOf(thrownBy(() -> call.on(x))));
    }

    /** Just below and just above its bounds, and far from them, the argument is refused; at them it is taken. */
    static void bounds(String what, Maker house, Class<?> type, int least, int most, CallWith call) {
        int[] outside = {least - 1, most + 1, Integer.MIN_VALUE, Integer.MAX_VALUE};
        for (int argument : outside) {
            refused(what + " " + argument, house, type, x -> call.on(x, argument));
        }
        int[] inside = {least, most};
        for (int argument : inside) {
            accepted(what + " " + argument, house, x -> call.on(x, argument));
        }
    }

    private static Class<?> thrownBy(Call call) {
        try {
            call.run();
        } catch (RuntimeException e) {
            return e.getClass();
        }
        return null;
    }

    private static String nameOf(Class<?> thrown) {
        return thrown == null ? "no exception" : thrown.getName();
    }

    static void finish() {
        if (wrong != 0) {
            System.out.println(wrong + " answers are not as due");
            System.exit(1);
        }
    }

    /** All that can be asked of a house, as one text. */
    static String stateOf(Waxrow x) {
        StringBuilder text = new StringBuilder();
        for (int what = 0; what <= 14; what++) {
            text.append(x.many(what)).append(' ');
        }
        for (int i = 0; i < x.many(1); i++) {
            text.append("\nperson ").append(i).append(": ");
            for (int what = 0; what <= 10; what++) {
                text.append(x.ofPerson(i, what)).append(' ');
            }
            for (int measure = 0; measure < 6; measure++) {
                text.append(x.known(i, measure, false)).append('-').append(x.known(i, measure, true)).append(' ');
            }
        }
        for (int i = 0; i < x.many(2); i++) {
            text.append("\nfigure ").append(i).append(": ");
            for (int what = 0; what <= 11; what++) {
                text.append(x.ofFigure(i, what)).append(' ');
            }
        }
        for (int i = 0; i < x.many(7); i++) {
            text.append("\nroom ").append(i).append(": ");
            for (int what = 0; what <= 3; what++) {
                text.append(x.ofRoom(i, what)).append(' ');
            }
        }
        return text.toString();
    }

    /** A person who gives consent, and of whom each measure is known but for an error. */
    static int measuredPerson(Waxrow x, int fame, int value, int error) {
        int person = x.person(fame, fame, fame);
        for (int measure = 0; measure < 6; measure++) {
            x.measure(person, measure, value, error);
        }
        x.consent(person, true);
        return person;
    }

    /** A figure that is done; four days without visitors go by. */
    static int doneFigure(Waxrow x, int person) {
        int figure = x.figure(person);
        x.work(figure, 9);
        x.pass(4, 0, 0);
        return figure;
    }

    /** Person 0 with this fame, known without doubt, whose figure 0 is shown in room 0. */
    static Waxrow houseThatShows(int fame, int lamps) {
        Waxrow x = new Waxrow();
        doneFigure(x, measuredPerson(x, fame, 50, 0));
        x.show(0, x.room(lamps, 1));
        return x;
    }

    /** The figure, done and in the store, stands in the room for so many days, and is as much more worn by them. */
    static void wearInRoom(Waxrow x, int figure, int room, int wear) {
        int lamps = x.lamps(room, 3);
        x.show(figure, room);
        passQuietly(x, wear);
        x.take(figure);
        x.lamps(room, lamps);
    }

    /** Days without visitors and without warmth. */
    static void passQuietly(Waxrow x, int days) {
        for (int gone = 0; gone < days; gone += 40) {
            x.pass(Math.min(40, days - gone), 0, 0);
        }
    }

    /** The figure, done and in the store, goes on tour for half as many days, and is back in the store, more worn. */
    static void wearOnTour(Waxrow x, int figure, int wear) {
        int days = wear / 2;
        for (int gone = 0; gone < days; gone += 40) {
            int next = Math.min(40, days - gone);
            x.tour(figure, 1, next);
            x.pass(next, 0, 0);
        }
    }
}
