/** A house of wax figures: persons of fame, figures of them, rooms, and the days that go by. */
public final class Waxrow {
    private static final int NONE = -1;

    private static final int MOST_PERSONS = 10;
    private static final int LANDS = 3;
    private static final int HOME = 0;
    private static final int MOST_FAME = 999;
    private static final int MOST_TREND = 40;
    private static final int MOST_NEWS = 500;
    private static final int MEASURES = 6;
    private static final int HEIGHT = 5;
    private static final int MOST_VALUE = 99;
    private static final int MOST_ERROR = 20;
    private static final int DAYS_OF_MONTH = 30;

    private static final int MOST_FIGURES = 8;
    private static final int[] WORK_OF_STEP = {4, 10, 3, 2, 12, 5};
    private static final int STEP_OF_FLAW = 1;
    private static final int LAST_STEP_WITHOUT_WAX = 3;
    private static final int STEP_DONE = 6;
    private static final int MOST_HANDS = 9;
    private static final int MOST_HANDS_OF_ALL = 12;
    private static final int FULL_LIKENESS = 100;
    private static final int LEAST_LIKENESS_SHOWN = 30;

    // Where a figure is: 0 to 4 is the room of that number.
    private static final int MOST_ROOMS = 5;
    private static final int STORE = 5;
    private static final int TOUR = 6;
    private static final int MELTED = 7;

    private static final int MOST_LAMPS = 9;
    private static final int MOST_SPOTS = 4;
    private static final int MOST_PRICE = 20;
    private static final int MOST_DAYS_OF_PASS = 40;
    private static final int MOST_DAYS_OF_TOUR = 60;
    private static final int MOST_DAYS_AHEAD = 60;
    private static final int MOST_MONTHS_AHEAD = 60;
    private static final int MONTHS_OF_NEXT = 6;
    private static final int MOST_VISITORS = 2000;
    private static final int MOST_WARMTH = 40;
    private static final int HARMLESS_WARMTH = 25;
    private static final int WEAR_THAT_MELTS = 100;
    private static final int MOST_WEAR_OF_TOUR = 99;
    private static final int WEAR_OF_TOUR_DAY = 2;
    private static final int COST_OF_CLEANING = 5;
    private static final int WEAR_CLEANED = 6;
    private static final int MENDING_UNIT = 10;
    private static final int WAX_OF_FIGURE = 20;

    private static final int LAST_OF_PERSON = 10;
    private static final int LAST_OF_FIGURE = 11;
    private static final int LAST_OF_ROOM = 3;
    private static final int LAST_OF_MANY = 14;

    private final House house;
    // What would be is tried on a copy, made once, so that asking leaves the house as it is.
    private final House trial;

    public Waxrow() {
        house = new House();
        trial = new House();
    }

    // ---- persons

    public int person(int here, int there, int beyond) throws IllegalArgumentException, IllegalStateException {
        checkArgument(here, 0, MOST_FAME);
        checkArgument(there, 0, MOST_FAME);
        checkArgument(beyond, 0, MOST_FAME);
        checkState(house.personCount < MOST_PERSONS);
        return house.addPerson(here, there, beyond);
    }

    public int trend(int person, int land, int trend) throws IndexOutOfBoundsException, IllegalArgumentException {
        Person who = house.personAt(person);
        checkIndex(land, LANDS);
        checkArgument(trend, -MOST_TREND, MOST_TREND);
        int before = who.trend[land];
        who.trend[land] = trend;
        return before;
    }

    public int news(int person, int by) throws IndexOutOfBoundsException, IllegalArgumentException {
        Person who = house.personAt(person);
        checkArgument(by, -MOST_NEWS, MOST_NEWS);
        who.changeFame(by);
        return who.fame[HOME];
    }

    public int consent(int person, boolean is) throws IndexOutOfBoundsException {
        Person who = house.personAt(person);
        who.consents = is;
        return is ? 0 : house.takeAllOf(who);
    }

    public int measure(int person, int measure, int value, int error)
            throws IndexOutOfBoundsException, IllegalArgumentException {
        Person who = house.personAt(person);
        checkIndex(measure, MEASURES);
        checkArgument(value, 0, MOST_VALUE);
        checkArgument(error, 0, MOST_ERROR);
        who.learn(measure, Math.max(value - error, 0), Math.min(value + error, MOST_VALUE));
        return who.high[measure] - who.low[measure];
    }

    public int pay(int person) throws IndexOutOfBoundsException {
        Person who = house.personAt(person);
        int paid = who.due;
        who.due = 0;
        house.money -= paid;
        return paid;
    }

    // ---- figures

    public int figure(int person) throws IndexOutOfBoundsException, IllegalStateException {
        Person who = house.personAt(person);
        checkState(house.figureCount < MOST_FIGURES);
        return house.addFigure(who);
    }

    public int work(int figure, int hands)
            throws IndexOutOfBoundsException, IllegalArgumentException, IllegalStateException {
        Figure one = house.figureAt(figure);
        checkArgument(hands, 0, MOST_HANDS);
        int all = house.allHands() - one.hands + hands;
        checkState(one.step < STEP_DONE && one.place != MELTED && all <= MOST_HANDS_OF_ALL);
        one.hands = hands;
        return all;
    }

    public int swap(int one, int other)
            throws IndexOutOfBoundsException, IllegalArgumentException, IllegalStateException {
        Figure first = house.figureAt(one);
        Figure second = house.figureAt(other);
        if (one == other) {
            throw new IllegalArgumentException("a figure cannot swap heads with itself");
        }
        checkState(first.isReadyInStore() && second.isReadyInStore());
        first.swapHeadWith(second);
        return first.likeness();
    }

    public int mend(int figure) throws IndexOutOfBoundsException, IllegalStateException {
        Figure one = house.figureAt(figure);
        checkState(one.isReadyInStore());
        int units = Math.min(one.wear / MENDING_UNIT, house.wax / MENDING_UNIT);
        one.wear -= units * MENDING_UNIT;
        house.wax -= units * MENDING_UNIT;
        return one.wear;
    }

    public int melt(int figure) throws IndexOutOfBoundsException, IllegalStateException {
        Figure one = house.figureAt(figure);
        checkState(one.place == STORE);
        // A figure that is done has a step above 3, too.
        if (one.step > LAST_STEP_WITHOUT_WAX) {
            house.wax += WAX_OF_FIGURE;
        }
        one.becomeMelted();
        return house.wax;
    }

    public int tour(int figure, int land, int days)
            throws IndexOutOfBoundsException, IllegalArgumentException, IllegalStateException {
        Figure one = house.figureAt(figure);
        checkArgument(land, HOME + 1, LANDS - 1);
        checkArgument(days, 1, MOST_DAYS_OF_TOUR);
        checkState(one.isReadyInStore() && one.head.consents);
        one.place = TOUR;
        one.tourLand = land;
        one.tourDays = days;
        return one.likeness();
    }

    // ---- rooms and days

    public int room(int lamps, int spots) throws IllegalArgumentException, IllegalStateException {
        checkArgument(lamps, 0, MOST_LAMPS);
        checkArgument(spots, 1, MOST_SPOTS);
        checkState(house.roomCount < MOST_ROOMS);
        return house.addRoom(lamps, spots);
    }

    public int lamps(int room, int lamps) throws IndexOutOfBoundsException, IllegalArgumentException {
        Room where = house.roomAt(room);
        checkArgument(lamps, 0, MOST_LAMPS);
        int before = where.lamps;
        where.lamps = lamps;
        return before;
    }

    public int show(int figure, int room) throws IndexOutOfBoundsException, IllegalStateException {
        Figure one = house.figureAt(figure);
        Room where = house.roomAt(room);
        checkState(one.isReadyInStore() && one.head.consents);
        checkState(one.likeness() >= LEAST_LIKENESS_SHOWN);
        checkState(house.figuresIn(room, room) < where.spots);
        checkState(house.shownOf(one.head) == NONE);
        one.place = room;
        return one.draw();
    }

    public int take(int figure) throws IndexOutOfBoundsException, IllegalStateException {
        Figure one = house.figureAt(figure);
        checkState(one.isShown());
        int room = one.place;
        one.place = STORE;
        return room;
    }

    public int clean(int room) throws IndexOutOfBoundsException {
        checkIndex(room, house.roomCount);
        house.money -= COST_OF_CLEANING;
        house.cleanFiguresIn(room);
        return house.money;
    }

    public int price(int price) throws IllegalArgumentException {
        checkArgument(price, 0, MOST_PRICE);
        int before = house.price;
        house.price = price;
        return before;
    }

    public int pass(int days, int visitors, int warmth) throws IllegalArgumentException {
        checkArgument(days, 1, MOST_DAYS_OF_PASS);
        checkArgument(visitors, 0, MOST_VISITORS);
        checkArgument(warmth, 0, MOST_WARMTH);
        int changed = 0;
        for (int i = 0; i < days; i++) {
            changed += house.passDay(visitors, warmth);
        }
        return changed;
    }

    // ---- what one asks

    public int ofPerson(int person, int what) throws IndexOutOfBoundsException, IllegalArgumentException {
        Person who = house.personAt(person);
        checkArgument(what, 0, LAST_OF_PERSON);
        if (what < LANDS) {
            return who.fame[what];
        }
        if (what < LANDS + LANDS) {
            return who.trend[what - LANDS];
        }
        switch (what) {
            case 6: return who.consents ? 1 : 0;
            case 7: return who.due;
            case 8: return who.doubt();
            case 9: return who.clashes;
            default: return house.shownOf(who);
        }
    }

    public int known(int person, int measure, boolean isHigh) throws IndexOutOfBoundsException {
        Person who = house.personAt(person);
        checkIndex(measure, MEASURES);
        return isHigh ? who.high[measure] : who.low[measure];
    }

    public int ofFigure(int figure, int what) throws IndexOutOfBoundsException, IllegalArgumentException {
        Figure one = house.figureAt(figure);
        checkArgument(what, 0, LAST_OF_FIGURE);
        switch (what) {
            case 0: return one.head.number;
            case 1: return one.body.number;
            case 2: return one.step;
            case 3: return one.workLeftInStep();
            case 4: return one.hands;
            case 5: return one.flaw;
            case 6: return one.wear;
            case 7: return one.likeness();
            case 8: return one.place;
            case 9: return one.tourDays;
            case 10: return one.draw();
            default: return one.touched;
        }
    }

    public int ofRoom(int room, int what) throws IndexOutOfBoundsException, IllegalArgumentException {
        Room where = house.roomAt(room);
        checkArgument(what, 0, LAST_OF_ROOM);
        switch (what) {
            case 0: return where.lamps;
            case 1: return where.spots;
            case 2: return where.spots - house.figuresIn(room, room);
            default: return house.drawsIn(room, room);
        }
    }

    public int many(int what) throws IllegalArgumentException {
        checkArgument(what, 0, LAST_OF_MANY);
        switch (what) {
            case 0: return house.day;
            case 1: return house.personCount;
            case 2: return house.figureCount;
            case 3: return house.figuresDone();
            case 4: return house.figuresIn(0, MOST_ROOMS - 1);
            case 5: return house.figuresIn(TOUR, TOUR);
            case 6: return house.figuresIn(MELTED, MELTED);
            case 7: return house.roomCount;
            case 8: return house.money;
            case 9: return house.wax;
            case 10: return house.allDue();
            case 11: return house.came;
            case 12: return house.allHands();
            case 13: return house.price;
            default: return house.drawsIn(0, MOST_ROOMS - 1);
        }
    }

    public double meanLikeness() {
        int shown = house.figuresIn(0, MOST_ROOMS - 1);
        if (shown == 0) {
            return 0.0;
        }
        return (double) house.likenessShown() / shown;
    }

    // ---- what would be (nothing is changed; nothing else is done)

    public int wouldFame(int person, int land, int months)
            throws IndexOutOfBoundsException, IllegalArgumentException {
        Person who = house.personAt(person);
        checkIndex(land, LANDS);
        checkArgument(months, 0, MOST_MONTHS_AHEAD);
        return who.fameBehind(land, months);
    }

    public int readyIn(int figure) throws IndexOutOfBoundsException {
        return house.figureAt(figure).daysTillDone();
    }

    public int meltsIn(int figure, int visitors, int warmth)
            throws IndexOutOfBoundsException, IllegalArgumentException {
        Figure one = house.figureAt(figure);
        checkArgument(visitors, 0, MOST_VISITORS);
        checkArgument(warmth, 0, MOST_WARMTH);
        // Days alone bring no figure into a room, and only there wear can melt it.
        if (!one.isShown()) {
            return NONE;
        }
        trial.copyFrom(house);
        Figure tried = trial.figureAt(figure);
        for (int days = 1; days <= MOST_DAYS_AHEAD; days++) {
            trial.passDay(visitors, warmth);
            if (tried.place == MELTED) {
                return days;
            }
        }
        return NONE;
    }

    public int bestNext() {
        int best = NONE;
        int bestFame = 0;
        int bestDoubt = 0;
        for (int i = 0; i < house.personCount; i++) {
            Person who = house.personAt(i);
            if (!who.consents || house.hasFigureOf(who)) {
                continue;
            }
            int fame = who.fameBehind(HOME, MONTHS_OF_NEXT);
            int doubt = who.doubt();
            if (best == NONE || fame > bestFame || (fame == bestFame && doubt < bestDoubt)) {
                best = i;
                bestFame = fame;
                bestDoubt = doubt;
            }
        }
        return best;
    }

    public long digest() {
        long d = 58234;
        for (int what = 0; what <= LAST_OF_MANY; what++) {
            d = d * 31 + many(what);
        }
        for (int i = 0; i < house.personCount; i++) {
            d = digestWithPerson(d, i);
        }
        for (int i = 0; i < house.figureCount; i++) {
            for (int what = 0; what <= LAST_OF_FIGURE; what++) {
                d = d * 31 + ofFigure(i, what);
            }
            d = d * 31 + readyIn(i);
            d = d * 31 + meltsIn(i, 900, 30);
        }
        for (int i = 0; i < house.roomCount; i++) {
            for (int what = 0; what <= LAST_OF_ROOM; what++) {
                d = d * 31 + ofRoom(i, what);
            }
        }
        return d * 31 + bestNext();
    }

    private long digestWithPerson(long before, int person) {
        long d = before;
        for (int what = 0; what <= LAST_OF_PERSON; what++) {
            d = d * 31 + ofPerson(person, what);
        }
        for (int measure = 0; measure < MEASURES; measure++) {
            d = d * 31 + known(person, measure, false);
            d = d * 31 + known(person, measure, true);
        }
        return d * 31 + wouldFame(person, HOME, 9);
    }

    private static void checkIndex(int index, int count) {
        if (index < 0 || index >= count) {
            throw new IndexOutOfBoundsException("there is none of this number");
        }
    }

    private static void checkArgument(int value, int least, int most) {
        if (value < least || value > most) {
            throw new IllegalArgumentException("a value is outside its bounds");
        }
    }

    private static void checkState(boolean isAllowed) {
        if (!isAllowed) {
            throw new IllegalStateException("this cannot be done now");
        }
    }

    /** Somebody famous: how much so, how it goes, what is known of the body, what is owed. */
    private static final class Person {
        final int number;
        final int[] fame;
        final int[] trend;
        final int[] low;
        final int[] high;
        boolean consents;
        int due;
        int clashes;

        Person(int itsNumber) {
            number = itsNumber;
            fame = new int[LANDS];
            trend = new int[LANDS];
            low = new int[MEASURES];
            high = new int[MEASURES];
            for (int i = 0; i < MEASURES; i++) {
                high[i] = MOST_VALUE;
            }
        }

        void copyFrom(Person other) {
            for (int i = 0; i < LANDS; i++) {
                fame[i] = other.fame[i];
                trend[i] = other.trend[i];
            }
            for (int i = 0; i < MEASURES; i++) {
                low[i] = other.low[i];
                high[i] = other.high[i];
            }
            consents = other.consents;
            due = other.due;
            clashes = other.clashes;
        }

        void changeFame(int by) {
            for (int i = 0; i < LANDS; i++) {
                fame[i] = heldFame(fame[i] + by);
            }
        }

        void beginMonth() {
            for (int i = 0; i < LANDS; i++) {
                fame[i] = heldFame(fame[i] + trend[i]);
                trend[i] = nearerToZero(trend[i]);
            }
        }

        int fameBehind(int land, int months) {
            int fameThen = fame[land];
            int trendThen = trend[land];
            for (int i = 0; i < months; i++) {
                fameThen = heldFame(fameThen + trendThen);
                trendThen = nearerToZero(trendThen);
            }
            return fameThen;
        }

        static int heldFame(int free) {
            return free < 0 ? 0 : free > MOST_FAME ? MOST_FAME : free;
        }

        static int nearerToZero(int value) {
            return value > 0 ? value - 1 : value < 0 ? value + 1 : 0;
        }

        void learn(int measure, int from, int to) {
            int bothLow = Math.max(low[measure], from);
            int bothHigh = Math.min(high[measure], to);
            boolean isClash = bothLow > bothHigh;
            low[measure] = isClash ? from : bothLow;
            high[measure] = isClash ? to : bothHigh;
            clashes += isClash ? 1 : 0;
        }

        int doubt() {
            int width = 0;
            for (int i = 0; i < MEASURES; i++) {
                width += high[i] - low[i];
            }
            return width / MEASURES;
        }

        int doubleHeight() {
            return low[HEIGHT] + high[HEIGHT];
        }
    }

    /** A figure of wax, from its frame till it is melted. */
    private static final class Figure {
        Person head;
        Person body;
        int step;
        int workInStep;
        int hands;
        int flaw;
        int wear;
        int place;
        int tourLand;
        int tourDays;
        int touched;

        Figure(Person whose) {
            head = whose;
            body = whose;
            place = STORE;
        }

        void copyFrom(Figure other, Person itsHead, Person itsBody) {
            head = itsHead;
            body = itsBody;
            step = other.step;
            workInStep = other.workInStep;
            hands = other.hands;
            flaw = other.flaw;
            wear = other.wear;
            place = other.place;
            tourLand = other.tourLand;
            tourDays = other.tourDays;
            touched = other.touched;
        }

        boolean isDone() {
            return step == STEP_DONE && place != MELTED;
        }

        boolean isReadyInStore() {
            return step == STEP_DONE && place == STORE;
        }

        boolean isShown() {
            return place >= 0 && place < MOST_ROOMS;
        }

        void becomeMelted() {
            place = MELTED;
            hands = 0;
        }

        /** Answers whether the figure came to be done. */
        boolean workDay() {
            if (step >= STEP_DONE || place == MELTED) {
                return false;
            }
            workInStep += hands;
            while (step < WORK_OF_STEP.length && workInStep >= WORK_OF_STEP[step]) {
                workInStep -= WORK_OF_STEP[step];
                step++;
                if (step == STEP_OF_FLAW) {
                    flaw = head.doubt();
                }
            }
            if (step < STEP_DONE) {
                return false;
            }
            workInStep = 0;
            hands = 0;
            return true;
        }

        int workLeftInStep() {
            return step < WORK_OF_STEP.length ? WORK_OF_STEP[step] - workInStep : 0;
        }

        int daysTillDone() {
            if (isDone()) {
                return 0;
            }
            if (place == MELTED || hands <= 0) {
                return NONE;
            }
            int left = -workInStep;
            for (int i = step; i < WORK_OF_STEP.length; i++) {
                left += WORK_OF_STEP[i];
            }
            return (left + hands - 1) / hands;
        }

        int likeness() {
            if (!isDone()) {
                return 0;
            }
            int likeness = FULL_LIKENESS - flaw - wear / 2;
            if (head != body) {
                int gap = head.doubleHeight() - body.doubleHeight();
                likeness -= (gap < 0 ? -gap : gap) / 4;
            }
            return likeness < 0 ? 0 : likeness;
        }

        int draw() {
            return isShown() ? head.fame[HOME] * likeness() / 100 : 0;
        }

        void swapHeadWith(Figure other) {
            Person itsHead = head;
            int itsFlaw = flaw;
            head = other.head;
            flaw = other.flaw;
            other.head = itsHead;
            other.flaw = itsFlaw;
        }

        /** Answers whether the figure is melted by that. */
        boolean wearDay(int touching, int lamps, int warmth) {
            touched += touching;
            head.due += touching / 100;
            int heat = warmth > HARMLESS_WARMTH ? (warmth - HARMLESS_WARMTH) * lamps / 10 : 0;
            wear = Math.min(wear + touching / 50 + lamps / 3 + heat, WEAR_THAT_MELTS);
            if (wear < WEAR_THAT_MELTS) {
                return false;
            }
            becomeMelted();
            return true;
        }

        /** Answers what money the day brings. */
        int tourDay() {
            int earned = 0;
            if (tourLand >= 0 && tourLand < LANDS) {
                earned = head.fame[tourLand] * likeness() / 1000;
            }
            wear = Math.min(wear + WEAR_OF_TOUR_DAY, MOST_WEAR_OF_TOUR);
            tourDays--;
            if (tourDays <= 0) {
                tourDays = 0;
                place = STORE;
            }
            return earned;
        }
    }

    /** A room of the house. */
    private static final class Room {
        int lamps;
        int spots;
    }

    /** All that there is; its rows are full from the start, and the counts tell how much of them is used. */
    private static final class House {
        final Person[] persons;
        final Figure[] figures;
        final Room[] rooms;
        int personCount;
        int figureCount;
        int roomCount;
        int day;
        int money;
        int wax;
        int price;
        int came;

        House() {
            persons = new Person[MOST_PERSONS];
            for (int i = 0; i < MOST_PERSONS; i++) {
                persons[i] = new Person(i);
            }
            figures = new Figure[MOST_FIGURES];
            for (int i = 0; i < MOST_FIGURES; i++) {
                figures[i] = new Figure(persons[0]);
            }
            rooms = new Room[MOST_ROOMS];
            for (int i = 0; i < MOST_ROOMS; i++) {
                rooms[i] = new Room();
            }
            money = 200;
            wax = 30;
            price = 5;
        }

        void copyFrom(House other) {
            personCount = other.personCount;
            figureCount = other.figureCount;
            roomCount = other.roomCount;
            day = other.day;
            money = other.money;
            wax = other.wax;
            price = other.price;
            came = other.came;
            for (int i = 0; i < personCount; i++) {
                persons[i].copyFrom(other.persons[i]);
            }
            for (int i = 0; i < figureCount; i++) {
                Figure from = other.figures[i];
                figures[i].copyFrom(from, personAt(from.head.number), personAt(from.body.number));
            }
            for (int i = 0; i < roomCount; i++) {
                rooms[i].lamps = other.rooms[i].lamps;
                rooms[i].spots = other.rooms[i].spots;
            }
        }

        Person personAt(int number) {
            checkIndex(number, personCount);
            return persons[number];
        }

        Figure figureAt(int number) {
            checkIndex(number, figureCount);
            return figures[number];
        }

        Room roomAt(int number) {
            checkIndex(number, roomCount);
            return rooms[number];
        }

        int addPerson(int here, int there, int beyond) {
            int number = personCount;
            personCount++;
            Person who = personAt(number);
            who.fame[0] = here;
            who.fame[1] = there;
            who.fame[2] = beyond;
            return number;
        }

        int addFigure(Person whose) {
            int number = figureCount;
            figureCount++;
            Figure one = figureAt(number);
            one.head = whose;
            one.body = whose;
            return number;
        }

        int addRoom(int lamps, int spots) {
            int number = roomCount;
            roomCount++;
            Room where = roomAt(number);
            where.lamps = lamps;
            where.spots = spots;
            return number;
        }

        int takeAllOf(Person who) {
            int taken = 0;
            for (int i = 0; i < figureCount; i++) {
                Figure one = figures[i];
                if (one.head == who && one.isShown()) {
                    one.place = STORE;
                    taken++;
                }
            }
            return taken;
        }

        int shownOf(Person who) {
            for (int i = 0; i < figureCount; i++) {
                if (figures[i].head == who && figures[i].isShown()) {
                    return i;
                }
            }
            return NONE;
        }

        boolean hasFigureOf(Person who) {
            for (int i = 0; i < figureCount; i++) {
                if (figures[i].head == who && figures[i].place != MELTED) {
                    return true;
                }
            }
            return false;
        }

        void cleanFiguresIn(int room) {
            for (int i = 0; i < figureCount; i++) {
                Figure one = figures[i];
                if (one.place == room) {
                    one.wear = Math.max(one.wear - WEAR_CLEANED, 0);
                }
            }
        }

        /** Answers how many figures are at places from the first to the last. */
        int figuresIn(int first, int last) {
            int count = 0;
            for (int i = 0; i < figureCount; i++) {
                if (figures[i].place >= first && figures[i].place <= last) {
                    count++;
                }
            }
            return count;
        }

        int figuresDone() {
            int count = 0;
            for (int i = 0; i < figureCount; i++) {
                if (figures[i].isDone()) {
                    count++;
                }
            }
            return count;
        }

        /** Answers all draws in the rooms from the first to the last. */
        int drawsIn(int first, int last) {
            int sum = 0;
            for (int i = 0; i < figureCount; i++) {
                if (figures[i].place >= first && figures[i].place <= last) {
                    sum += figures[i].draw();
                }
            }
            return sum;
        }

        int likenessShown() {
            int sum = 0;
            for (int i = 0; i < figureCount; i++) {
                if (figures[i].isShown()) {
                    sum += figures[i].likeness();
                }
            }
            return sum;
        }

        int allDue() {
            int sum = 0;
            for (int i = 0; i < personCount; i++) {
                sum += persons[i].due;
            }
            return sum;
        }

        int allHands() {
            int sum = 0;
            for (int i = 0; i < figureCount; i++) {
                sum += figures[i].hands;
            }
            return sum;
        }

        /** Answers how many figures came to be done, or were melted. */
        int passDay(int visitors, int warmth) {
            day++;
            if (day % DAYS_OF_MONTH == 0) {
                beginMonthOfAll();
            }
            int done = workOnAll();
            int draws = drawsIn(0, MOST_ROOMS - 1);
            int coming = visitors * (100 - 5 * price) / 100;
            came += coming;
            money += price * coming;
            int melted = wearAllShown(coming, draws, warmth);
            tourWithAll();
            return done + melted;
        }

        void beginMonthOfAll() {
            for (int i = 0; i < personCount; i++) {
                persons[i].beginMonth();
            }
        }

        int workOnAll() {
            int done = 0;
            for (int i = 0; i < figureCount; i++) {
                if (figures[i].workDay()) {
                    done++;
                }
            }
            return done;
        }

        /** Answers how many figures are melted by that. */
        int wearAllShown(int coming, int draws, int warmth) {
            int melted = 0;
            for (int i = 0; i < figureCount; i++) {
                Figure one = figures[i];
                if (!one.isShown()) {
                    continue;
                }
                // No other figure's wear changes this draw, so it is still that of the day's beginning.
                int touching = draws > 0 ? coming * one.draw() / draws : 0;
                if (one.wearDay(touching, roomAt(one.place).lamps, warmth)) {
                    melted++;
                }
            }
            return melted;
        }

        void tourWithAll() {
            for (int i = 0; i < figureCount; i++) {
                if (figures[i].place == TOUR) {
                    money += figures[i].tourDay();
                }
            }
        }
    }
}
