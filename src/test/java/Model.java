import java.util.ArrayList;
import java.util.List;

/**
 * The house once more, written from the document alone and as plainly as it goes: it shares no way of working with
 * Waxrow (lists that grow, a copy of everything to try days on), so that both are wrong in the same way seldom.
 */
final class Model {
    static final int STORE = 5;
    static final int TOUR = 6;
    static final int MELTED = 7;
    private static final int[] NEEDS = {4, 10, 3, 2, 12, 5};

    private static final class P {
        int[] fame;
        int[] trend = new int[3];
        boolean consent;
        int due;
        int[][] known = {{0, 99}, {0, 99}, {0, 99}, {0, 99}, {0, 99}, {0, 99}};
        int clashes;

        int doubt() {
            int sum = 0;
            for (int[] k : known) {
                sum += k[1] - k[0];
            }
            return Math.floorDiv(sum, 6);
        }
    }

    private static final class F {
        int head;
        int body;
        /** All work that was done, of 36. */
        int work;
        int hands;
        int flaw;
        int wear;
        int place = STORE;
        int land;
        int days;
        int touched;
    }

    private final List<P> persons = new ArrayList<>();
    private final List<F> figures = new ArrayList<>();
    private final List<int[]> rooms = new ArrayList<>();
    private int day;
    private long money = 200;
    private int wax = 30;
    private int price = 5;
    private long came;

    private Model copy() {
        Model m = new Model();
        for (P p : persons) {
            P q = new P();
            q.fame = p.fame.clone();
            q.trend = p.trend.clone();
            q.consent = p.consent;
            q.due = p.due;
            for (int i = 0; i < 6; i++) {
                q.known[i] = p.known[i].clone();
            }
            q.clashes = p.clashes;
            m.persons.add(q);
        }
        for (F f : figures) {
            F g = new F();
            g.head = f.head;
            g.body = f.body;
            g.work = f.work;
            g.hands = f.hands;
            g.flaw = f.flaw;
            g.wear = f.wear;
            g.place = f.place;
            g.land = f.land;
            g.days = f.days;
            g.touched = f.touched;
            m.figures.add(g);
        }
        for (int[] r : rooms) {
            m.rooms.add(r.clone());
        }
        m.day = day;
        m.money = money;
        m.wax = wax;
        m.price = price;
        m.came = came;
        return m;
    }

    private static void index(boolean is) {
        if (!is) {
            throw new IndexOutOfBoundsException();
        }
    }

    private static void argument(boolean is) {
        if (!is) {
            throw new IllegalArgumentException();
        }
    }

    private static void state(boolean is) {
        if (!is) {
            throw new IllegalStateException();
        }
    }

    private static boolean in(int v, int least, int most) {
        return least <= v && v <= most;
    }

    private static int held(int v, int most) {
        return Math.max(0, Math.min(most, v));
    }

    private P p(int person) {
        index(in(person, 0, persons.size() - 1));
        return persons.get(person);
    }

    private F f(int figure) {
        index(in(figure, 0, figures.size() - 1));
        return figures.get(figure);
    }

    private int[] r(int room) {
        index(in(room, 0, rooms.size() - 1));
        return rooms.get(room);
    }

    public int person(int here, int there, int beyond) {
        argument(in(here, 0, 999) && in(there, 0, 999) && in(beyond, 0, 999));
        state(persons.size() != 10);
        P p = new P();
        p.fame = new int[] {here, there, beyond};
        persons.add(p);
        return persons.size() - 1;
    }

    public int trend(int person, int land, int trend) {
        P p = p(person);
        index(in(land, 0, 2));
        argument(in(trend, -40, 40));
        int before = p.trend[land];
        p.trend[land] = trend;
        return before;
    }

    public int news(int person, int by) {
        P p = p(person);
        argument(in(by, -500, 500));
        for (int land = 0; land < 3; land++) {
            p.fame[land] = held(p.fame[land] + by, 999);
        }
        return p.fame[0];
    }

    public int consent(int person, boolean is) {
        p(person).consent = is;
        int out = 0;
        for (F f : figures) {
            if (!is && f.head == person && f.place < STORE) {
                f.place = STORE;
                out++;
            }
        }
        return out;
    }

    public int measure(int person, int measure, int value, int error) {
        P p = p(person);
        index(in(measure, 0, 5));
        argument(in(value, 0, 99) && in(error, 0, 20));
        List<Integer> both = new ArrayList<>();
        List<Integer> fresh = new ArrayList<>();
        for (int v = 0; v <= 99; v++) {
            if (Math.abs(v - value) <= error) {
                fresh.add(v);
                if (in(v, p.known[measure][0], p.known[measure][1])) {
                    both.add(v);
                }
            }
        }
        if (both.isEmpty()) {
            p.clashes++;
            both = fresh;
        }
        p.known[measure] = new int[] {both.get(0), both.get(both.size() - 1)};
        return both.size() - 1;
    }

    public int pay(int person) {
        P p = p(person);
        int due = p.due;
        money -= due;
        p.due = 0;
        return due;
    }

    public int figure(int person) {
        p(person);
        state(figures.size() != 8);
        F f = new F();
        f.head = person;
        f.body = person;
        figures.add(f);
        return figures.size() - 1;
    }

    private static int step(F f) {
        int step = 0;
        int done = f.work;
        while (step < 6 && done >= NEEDS[step]) {
            done -= NEEDS[step++];
        }
        return step;
    }

    private static int needsYet(F f) {
        int sum = 0;
        for (int need : NEEDS) {
            sum += need;
            if (sum > f.work) {
                return sum - f.work;
            }
        }
        return 0;
    }

    private static boolean done(F f) {
        return f.work == 36 && f.place != MELTED;
    }

    private int hands() {
        return figures.stream().mapToInt(f -> f.hands).sum();
    }

    public int work(int figure, int hands) {
        F f = f(figure);
        argument(in(hands, 0, 9));
        state(!done(f));
        state(f.place != MELTED);
        state(hands() - f.hands + hands <= 12);
        f.hands = hands;
        return hands();
    }

    private int likeness(F f) {
        if (!done(f)) {
            return 0;
        }
        int less = f.flaw + Math.floorDiv(f.wear, 2);
        if (f.head != f.body) {
            int[] one = persons.get(f.head).known[5];
            int[] other = persons.get(f.body).known[5];
            less += Math.floorDiv(Math.abs(one[0] + one[1] - other[0] - other[1]), 4);
        }
        return Math.max(0, 100 - less);
    }

    private int draw(F f) {
        return f.place < STORE ? Math.floorDiv(persons.get(f.head).fame[0] * likeness(f), 100) : 0;
    }

    public int swap(int one, int other) {
        F a = f(one);
        F b = f(other);
        argument(one != other);
        state(done(a) && done(b) && a.place == STORE && b.place == STORE);
        int[] kept = {a.head, a.flaw};
        a.head = b.head;
        a.flaw = b.flaw;
        b.head = kept[0];
        b.flaw = kept[1];
        return likeness(a);
    }

    public int mend(int figure) {
        F f = f(figure);
        state(done(f) && f.place == STORE);
        while (f.wear >= 10 && wax >= 10) {
            f.wear -= 10;
            wax -= 10;
        }
        return f.wear;
    }

    public int melt(int figure) {
        F f = f(figure);
        state(f.place == STORE);
        if (done(f) || step(f) > 3) {
            wax += 20;
        }
        f.place = MELTED;
        f.hands = 0;
        return wax;
    }

    public int tour(int figure, int land, int days) {
        F f = f(figure);
        argument((land == 1 || land == 2) && in(days, 1, 60));
        state(done(f) && f.place == STORE && persons.get(f.head).consent);
        f.place = TOUR;
        f.land = land;
        f.days = days;
        return likeness(f);
    }

    public int room(int lamps, int spots) {
        argument(in(lamps, 0, 9) && in(spots, 1, 4));
        state(rooms.size() != 5);
        rooms.add(new int[] {lamps, spots});
        return rooms.size() - 1;
    }

    public int lamps(int room, int lamps) {
        int[] r = r(room);
        argument(in(lamps, 0, 9));
        int before = r[0];
        r[0] = lamps;
        return before;
    }

    private int free(int room) {
        int free = rooms.get(room)[1];
        for (F f : figures) {
            free -= f.place == room ? 1 : 0;
        }
        return free;
    }

    public int show(int figure, int room) {
        F f = f(figure);
        r(room);
        state(done(f) && f.place == STORE);
        state(persons.get(f.head).consent);
        state(likeness(f) >= 30);
        state(free(room) > 0);
        for (F other : figures) {
            state(other.head != f.head || other.place >= STORE);
        }
        f.place = room;
        return draw(f);
    }

    public int take(int figure) {
        F f = f(figure);
        state(f.place < STORE);
        int room = f.place;
        f.place = STORE;
        return room;
    }

    public int clean(int room) {
        r(room);
        money -= 5;
        for (F f : figures) {
            f.wear = f.place == room ? Math.max(0, f.wear - 6) : f.wear;
        }
        return (int) money;
    }

    public int price(int price) {
        argument(in(price, 0, 20));
        int before = this.price;
        this.price = price;
        return before;
    }

    public int pass(int days, int visitors, int warmth) {
        argument(in(days, 1, 40) && in(visitors, 0, 2000) && in(warmth, 0, 40));
        int count = 0;
        for (int i = 0; i < days; i++) {
            count += oneDay(visitors, warmth);
        }
        return count;
    }

    private int oneDay(int visitors, int warmth) {
        int count = 0;
        day++;
        if (Math.floorMod(day, 30) == 0) {
            for (P p : persons) {
                for (int land = 0; land < 3; land++) {
                    p.fame[land] = held(p.fame[land] + p.trend[land], 999);
                    p.trend[land] -= Integer.signum(p.trend[land]);
                }
            }
        }
        for (F f : figures) {
            if (f.work < 36 && f.place != MELTED) {
                int before = step(f);
                f.work = Math.min(36, f.work + f.hands);
                f.flaw = before == 0 && step(f) > 0 ? persons.get(f.head).doubt() : f.flaw;
                if (done(f)) {
                    f.hands = 0;
                    count++;
                }
            }
        }
        long coming = Math.floorDiv((long) visitors * (100 - 5 * price), 100L);
        came += coming;
        money += price * coming;
        long[] draws = figures.stream().mapToLong(this::draw).toArray();
        long all = 0;
        for (long draw : draws) {
            all += draw;
        }
        for (int i = 0; i < draws.length; i++) {
            F f = figures.get(i);
            if (f.place < STORE) {
                int touches = all == 0 ? 0 : (int) Math.floorDiv(coming * draws[i], all);
                f.touched += touches;
                persons.get(f.head).due += Math.floorDiv(touches, 100);
                int lamps = rooms.get(f.place)[0];
                f.wear += Math.floorDiv(touches, 50) + Math.floorDiv(lamps, 3);
                f.wear += warmth > 25 ? Math.floorDiv((warmth - 25) * lamps, 10) : 0;
                f.wear = Math.min(100, f.wear);
                if (f.wear == 100) {
                    f.place = MELTED;
                    count++;
                }
            }
        }
        for (F f : figures) {
            if (f.place == TOUR) {
                money += Math.floorDiv(persons.get(f.head).fame[f.land] * likeness(f), 1000);
                f.wear = Math.min(99, f.wear + 2);
                f.days--;
                f.place = f.days == 0 ? STORE : TOUR;
            }
        }
        return count;
    }

    public int ofPerson(int person, int what) {
        P p = p(person);
        argument(in(what, 0, 10));
        if (what < 3) {
            return p.fame[what];
        }
        if (what < 6) {
            return p.trend[what - 3];
        }
        int shown = -1;
        for (int i = 0; i < figures.size(); i++) {
            shown = figures.get(i).head == person && figures.get(i).place < STORE ? i : shown;
        }
        return new int[] {p.consent ? 1 : 0, p.due, p.doubt(), p.clashes, shown}[what - 6];
    }

    public int known(int person, int measure, boolean isHigh) {
        P p = p(person);
        index(in(measure, 0, 5));
        return p.known[measure][isHigh ? 1 : 0];
    }

    public int ofFigure(int figure, int what) {
        F f = f(figure);
        argument(in(what, 0, 11));
        return new int[] {f.head, f.body, step(f), needsYet(f), f.hands, f.flaw, f.wear, likeness(f), f.place, f.days,
            draw(f), f.touched}[what];
    }

    public int ofRoom(int room, int what) {
        int[] r = r(room);
        argument(in(what, 0, 3));
        int draws = figures.stream().filter(f -> f.place == room).mapToInt(this::draw).sum();
        return new int[] {r[0], r[1], free(room), draws}[what];
    }

    private int at(int least, int most) {
        return (int) figures.stream().filter(f -> in(f.place, least, most)).count();
    }

    public int many(int what) {
        argument(in(what, 0, 14));
        int done = (int) figures.stream().filter(Model::done).count();
        int due = persons.stream().mapToInt(p -> p.due).sum();
        int draws = figures.stream().mapToInt(this::draw).sum();
        return new int[] {day, persons.size(), figures.size(), done, at(0, 4), at(TOUR, TOUR), at(MELTED, MELTED),
            rooms.size(), (int) money, wax, due, (int) came, hands(), price, draws}[what];
    }

    public double meanLikeness() {
        return figures.stream().filter(f -> f.place < STORE).mapToInt(this::likeness).average().orElse(0);
    }

    public int wouldFame(int person, int land, int months) {
        P p = p(person);
        index(in(land, 0, 2));
        argument(in(months, 0, 60));
        int fame = p.fame[land];
        for (int i = 0; i < months; i++) {
            int left = Math.max(0, Math.abs(p.trend[land]) - i);
            fame = held(fame + Integer.signum(p.trend[land]) * left, 999);
        }
        return fame;
    }

    public int readyIn(int figure) {
        F f = f(figure);
        if (done(f)) {
            return 0;
        }
        return f.place == MELTED || f.hands == 0 ? -1 : (int) Math.ceil((36 - f.work) / (double) f.hands);
    }

    public int meltsIn(int figure, int visitors, int warmth) {
        F f = f(figure);
        argument(in(visitors, 0, 2000) && in(warmth, 0, 40));
        if (f.place == MELTED) {
            return -1;
        }
        Model trial = copy();
        for (int days = 1; days <= 60; days++) {
            trial.oneDay(visitors, warmth);
            if (trial.figures.get(figure).place == MELTED) {
                return days;
            }
        }
        return -1;
    }

    public int bestNext() {
        int best = -1;
        long bestRank = Long.MIN_VALUE;
        for (int i = 0; i < persons.size(); i++) {
            int person = i;
            if (!persons.get(i).consent || figures.stream().anyMatch(f -> f.head == person && f.place != MELTED)) {
                continue;
            }
            long rank = wouldFame(i, 0, 6) * 10000L - persons.get(i).doubt() * 20L - i;
            if (rank > bestRank) {
                bestRank = rank;
                best = i;
            }
        }
        return best;
    }

    public long digest() {
        List<Long> numbers = new ArrayList<>();
        for (int what = 0; what <= 14; what++) {
            numbers.add((long) many(what));
        }
        for (int i = 0; i < persons.size(); i++) {
            for (int what = 0; what <= 10; what++) {
                numbers.add((long) ofPerson(i, what));
            }
            for (int[] known : persons.get(i).known) {
                numbers.add((long) known[0]);
                numbers.add((long) known[1]);
            }
            numbers.add((long) wouldFame(i, 0, 9));
        }
        for (int i = 0; i < figures.size(); i++) {
            for (int what = 0; what <= 11; what++) {
                numbers.add((long) ofFigure(i, what));
            }
            numbers.add((long) readyIn(i));
            numbers.add((long) meltsIn(i, 900, 30));
        }
        for (int i = 0; i < rooms.size(); i++) {
            for (int what = 0; what <= 3; what++) {
                numbers.add((long) ofRoom(i, what));
            }
        }
        numbers.add((long) bestNext());
        long d = 58234;
        for (long v : numbers) {
            d = d * 31 + v;
        }
        return d;
    }
}
