/** What the tests share: checks that count what is wrong, and houses that are far enough along to be tested. */
final class Checks {
    static final Class<?> INDEX = IndexOutOfBoundsException.class;
    static final Class<?> ARGUMENT = IllegalArgumentException.class;
    static final Class<?> STATE = IllegalStateException.class;

    private static int wrong = 0;

    private Checks() {
    }

    interface Call {
        void run();
    }

    static void due(String what, long want, long got) {
        if (want != got) {
            wrong++;
            System.out.println(what + ": due is " + want + ", answered " + got);
        }
    }

    static void due(String what, double want, double got) {
        if (want != got) {
            wrong++;
            System.out.println(what + ": due is " + want + ", answered " + got);
        }
    }

    static void due(String what, String want, String got) {
        if (!want.equals(got)) {
            wrong++;
            System.out.println(what + ": due is " + want + ", answered " + got);
        }
    }

    /** The call throws an exception of exactly this class, and the house stays as it was. */
    static void refused(String what, Waxrow x, Class<?> type, Call call) {
        String before = stateOf(x);
        Class<?> thrown = null;
        try {
            call.run();
        } catch (RuntimeException e) {
            thrown = e.getClass();
        }
        if (thrown != type) {
            wrong++;
            System.out.println(what + ": due is " + type + ", thrown was " + thrown);
        }
        due(what + " changes nothing", before, stateOf(x));
    }

    static void finish() {
        if (wrong != 0) {
            System.out.println(wrong + " answers are not as due");
            System.exit(1);
        }
    }

    /** All that can be asked of a house, as one text. */
    static String stateOf(Waxrow x) {
        StringBuilder text = new StringBuilder();
        for (int what = 0; what <= 14; what++) {
            text.append(x.many(what)).append(' ');
        }
        for (int i = 0; i < x.many(1); i++) {
            text.append("\nperson ").append(i).append(": ");
            for (int what = 0; what <= 10; what++) {
                text.append(x.ofPerson(i, what)).append(' ');
            }
            for (int measure = 0; measure < 6; measure++) {
                text.append(x.known(i, measure, false)).append('-').append(x.known(i, measure, true)).append(' ');
            }
        }
        for (int i = 0; i < x.many(2); i++) {
            text.append("\nfigure ").append(i).append(": ");
            for (int what = 0; what <= 11; what++) {
                text.append(x.ofFigure(i, what)).append(' ');
            }
        }
        for (int i = 0; i < x.many(7); i++) {
            text.append("\nroom ").append(i).append(": ");
            for (int what = 0; what <= 3; what++) {
                text.append(x.ofRoom(i, what)).append(' ');
            }
        }
        return text.toString();
    }

    /** A person who gives consent, and of whom each measure is known but for an error. */
    static int measuredPerson(Waxrow x, int fame, int value, int error) {
        int person = x.person(fame, fame, fame);
        for (int measure = 0; measure < 6; measure++) {
            x.measure(person, measure, value, error);
        }
        x.consent(person, true);
        return person;
    }

    /** A figure that is done; four days without visitors go by. */
    static int doneFigure(Waxrow x, int person) {
        int figure = x.figure(person);
        x.work(figure, 9);
        x.pass(4, 0, 0);
        return figure;
    }

    /** Person 0 with this fame, known without doubt, whose figure 0 is shown in room 0. */
    static Waxrow houseThatShows(int fame, int lamps) {
        Waxrow x = new Waxrow();
        doneFigure(x, measuredPerson(x, fame, 50, 0));
        x.show(0, x.room(lamps, 1));
        return x;
    }

    /** The figure, done and in the store, goes on tour for half as many days, and is back in the store, more worn. */
    static void wearOnTour(Waxrow x, int figure, int wear) {
        int days = wear / 2;
        for (int gone = 0; gone < days; gone += 40) {
            int next = Math.min(40, days - gone);
            x.tour(figure, 1, next);
            x.pass(next, 0, 0);
        }
    }
}
