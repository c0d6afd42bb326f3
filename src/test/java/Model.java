import java.util.ArrayList;
import java.util.Arrays;
import java.util.List;
import java.util.Set;
import java.util.TreeSet;

/**
 * The document once more, written apart from the program and as near to the words as can be: records in
 * lists, recursion from one person to the next, sets as sets. ModelTest compares the two.
 */
final class Model {
    private record Person(int kind, int parish, int born, int other, int day, int list, int week, int earns) {
        Person withOther(int who, int when) {
            return new Person(kind, parish, born, who, when, list, week, earns);
        }

        Person withList(int where, int when) {
            return new Person(kind, parish, born, other, day, where, when, earns);
        }

        Person withEarns(int v) {
            return new Person(kind, parish, born, other, day, list, week, v);
        }
    }

    private record Fact(int kind, int person, int parish, int pounds, int from, int to, int known, boolean doubted) {
        Fact with(boolean on) {
            return new Fact(kind, person, parish, pounds, from, to, known, on);
        }
    }

    private record Law(int kind, int number, int from, int to) {
        boolean inForce(int wanted, int day) {
            return kind == wanted && day >= from && day <= to;
        }
    }

    private record Order(int person, int from, int to, int day, int costs, int state) {
    }

    private static final class State {
        List<Integer> worth = new ArrayList<>();
        int[][] miles = new int[6][6];
        List<Person> persons = new ArrayList<>();
        List<Fact> facts = new ArrayList<>();
        List<Law> laws = new ArrayList<>();
        List<Order> orders = new ArrayList<>();
        int term = 60;
        int scale = 3;
        int[] prices = new int[60];

        State copy() {
            State c = new State();
            c.worth.addAll(worth);
            for (int i = 0; i < 6; i++) {
                c.miles[i] = miles[i].clone();
            }
            c.persons.addAll(persons);
            c.facts.addAll(facts);
            c.laws.addAll(laws);
            c.orders.addAll(orders);
            c.term = term;
            c.scale = scale;
            c.prices = prices.clone();
            return c;
        }
    }

    private State now = new State();
    private State kept = null;
    private final long[][] sheets = new long[4][];
    private final int[] bits = new int[4];
    private int findings = 0;

    /** The number of the call in the document's face, its numbers in a row (doubt's flag: 0 or not). */
    int call(int which, int[] a) {
        int answer = answer(which, a);
        if (answer < -99999) {
            findings++;
        }
        return answer;
    }

    /** For those who draw calls; no call itself. */
    int dayOfOrder(int order) {
        return of(order, now.orders) ? now.orders.get(order).day : 0;
    }

    private int answer(int which, int[] a) {
        return switch (which) {
            case 0 -> parish(a[0]);
            case 1 -> miles(a[0], a[1], a[2]);
            case 2 -> person(a[0], a[1], a[2]);
            case 3 -> as(a[0], a[1]);
            case 4 -> husband(a[0], a[1], a[2]);
            case 5 -> father(a[0], a[1]);
            case 6 -> fact(a[0], a[1], a[2], a[3], a[4], a[5], a[6]);
            case 7 -> doubt(a[0], a[1] != 0);
            case 8 -> forget();
            case 9 -> law(a[0], a[1], a[2], a[3]);
            case 10 -> ends(a[0], a[1]);
            case 11, 12, 13, 14, 15 -> reckon(which, a[0], a[1], a[2]);
            case 16 -> order(a[0], a[1], a[2], a[3]);
            case 17 -> appeal(a[0], a[1]);
            case 18 -> ordered(a[0], a[1]);
            case 19 -> costs(a[0]);
            case 20 -> set(a[0], a[1]);
            case 21 -> list(a[0], a[1], a[2]);
            case 22 -> earns(a[0], a[1]);
            case 23 -> price(a[0], a[1]);
            case 24 -> relief(a[0], a[1]);
            case 25 -> week(a[0], a[1]);
            case 26 -> rate(a[0], a[1]);
            case 27 -> sheet(a[0], a[1], a[2]);
            case 28 -> put(a[0], a[1], a[2]);
            case 29 -> copy(a[0], a[1], a[2], a[3], a[4]);
            case 30 -> read(a[0]);
            case 31 -> keep();
            case 32 -> back();
            default -> told(a[0]);
        };
    }

    private static boolean in(int v, int least, int most) {
        return least <= v && v <= most;
    }

    private static boolean of(int i, List<?> all) {
        return in(i, 0, all.size() - 1);
    }

    private static boolean day(int... days) {
        return Arrays.stream(days).allMatch(d -> in(d, 0, 9999));
    }

    private static <T> int added(List<T> all, T one, int most) {
        if (all.size() == most) {
            return Due.FULL;
        }
        all.add(one);
        return all.size() - 1;
    }

    private int parish(int worth) {
        return !in(worth, 0, 10000) ? Due.BEYOND : added(now.worth, worth, 6);
    }

    private int miles(int a, int b, int v) {
        if (!of(a, now.worth) || !of(b, now.worth) || !in(v, 0, 99)) {
            return Due.BEYOND;
        }
        if (a == b) {
            return Due.SIZE;
        }
        int low = Math.min(a, b);
        int high = Math.max(a, b);
        int was = now.miles[low][high];
        now.miles[low][high] = v;
        return was;
    }

    private int person(int kind, int parish, int born) {
        if (!in(kind, 0, 3) || !of(parish, now.worth) || !day(born)) {
            return Due.BEYOND;
        }
        return added(now.persons, new Person(kind, parish, born, -1, -1, -1, -1, 0), 10);
    }

    private int as(int person, int kind) {
        if (!of(person, now.persons) || !in(kind, 0, 3)) {
            return Due.BEYOND;
        }
        int is = now.persons.get(person).kind;
        return kind == 0 || kind == is || kind == 2 && is == 3 ? person : Due.KIND;
    }

    private boolean goesRound(int person, int other) {
        return other == person || other >= 0 && goesRound(person, now.persons.get(other).other);
    }

    private int goBy(int person, int other, int when) {
        if (goesRound(person, other)) {
            return Due.RING;
        }
        Person p = now.persons.get(person);
        now.persons.set(person, p.withOther(other, when));
        return p.other;
    }

    private int husband(int wife, int husband, int when) {
        if (!of(wife, now.persons) || husband != -1 && !of(husband, now.persons) || husband != -1 && !day(when)) {
            return Due.BEYOND;
        }
        return now.persons.get(wife).kind != 1 ? Due.KIND : goBy(wife, husband, when);
    }

    private int father(int child, int father) {
        if (!of(child, now.persons) || father != -1 && !of(father, now.persons)) {
            return Due.BEYOND;
        }
        return now.persons.get(child).kind != 2 ? Due.KIND : goBy(child, father, -1);
    }

    private int fact(int kind, int person, int parish, int pounds, int from, int to, int known) {
        if (!in(kind, 0, 1) || !of(person, now.persons) || !of(parish, now.worth) || !day(from, to, known)
                || kind == 1 && !in(pounds, 0, 99)) {
            return Due.BEYOND;
        }
        if (from > to) {
            return Due.SIZE;
        }
        return added(now.facts, new Fact(kind, person, parish, pounds, from, to, known, false), 24);
    }

    private int doubtedFacts() {
        return (int) now.facts.stream().filter(Fact::doubted).count();
    }

    private int doubt(int fact, boolean on) {
        if (!of(fact, now.facts)) {
            return Due.BEYOND;
        }
        boolean was = now.facts.get(fact).doubted;
        if (on && !was && doubtedFacts() == 8) {
            return Due.FULL;
        }
        now.facts.set(fact, now.facts.get(fact).with(on));
        return was == on ? 0 : 1;
    }

    private int forget() {
        if (now.facts.isEmpty()) {
            return Due.NONE;
        }
        now.facts.remove(now.facts.size() - 1);
        return now.facts.size();
    }

    private int law(int kind, int number, int from, int to) {
        boolean looked = kind == 1 || kind == 2 || kind == 4;
        if (!in(kind, 0, 4) || looked && !in(number, 0, 9999) || !day(from, to)) {
            return Due.BEYOND;
        }
        return from > to ? Due.SIZE : added(now.laws, new Law(kind, number, from, to), 12);
    }

    private int ends(int law, int last) {
        if (!of(law, now.laws) || !day(last)) {
            return Due.BEYOND;
        }
        Law l = now.laws.get(law);
        if (last < l.from) {
            return Due.SIZE;
        }
        now.laws.set(law, new Law(l.kind, l.number, l.from, last));
        return l.to;
    }

    /** Which person's own settlement tells, and what it is (-1: none). */
    private record Told(int person, int parish) {
    }

    private int own(int person, int d, int k, Set<Integer> notSo) {
        Person p = now.persons.get(person);
        int parish = -1;
        int best = -1;
        // A gain's rank is its day, and of one day its fact: BIRTH 0, fact f 1 + f.
        if (p.born <= d && now.laws.stream().anyMatch(l -> l.inForce(0, p.born))) {
            parish = p.parish;
            best = p.born * 100;
        }
        for (int i = 0; i < now.facts.size(); i++) {
            Fact f = now.facts.get(i);
            int gained = f.kind == 0 ? f.to : f.from;
            int measure = f.kind == 0 ? f.to - f.from + 1 : f.pounds;
            boolean lawful = now.laws.stream().anyMatch(l -> l.inForce(1 + f.kind, gained) && l.number <= measure);
            int rank = gained * 100 + 1 + i;
            if (f.person == person && !notSo.contains(i) && f.known <= k && gained <= d && lawful && rank > best) {
                parish = f.parish;
                best = rank;
            }
        }
        return parish;
    }

    private Told settled(int person, int d, int k, Set<Integer> notSo) {
        Person p = now.persons.get(person);
        boolean goes = false;
        if (p.kind == 1 && p.other >= 0) {
            goes = p.day <= d && now.laws.stream().anyMatch(l -> l.inForce(3, p.day));
        }
        if (p.kind == 2 && p.other >= 0) {
            goes = d >= p.born && now.laws.stream().anyMatch(l -> l.inForce(4, p.born) && d - p.born < l.number);
        }
        if (goes) {
            Told by = settled(p.other, d, k, notSo);
            if (by.parish >= 0) {
                return by;
            }
        }
        return new Told(person, own(person, d, k, notSo));
    }

    private void allWays(int fact, Set<Integer> notSo, int[] asked, Set<Integer> found) {
        if (fact == now.facts.size()) {
            int parish = settled(asked[0], asked[1], asked[2], notSo).parish;
            found.add(parish < 0 ? 6 : parish);
            return;
        }
        boolean fixed = fact == asked[3];
        boolean doubted = now.facts.get(fact).doubted;
        if (!fixed || asked[4] == 1) {
            allWays(fact + 1, notSo, asked, found);
        }
        if (doubted && (!fixed || asked[4] == 0)) {
            Set<Integer> more = new TreeSet<>(notSo);
            more.add(fact);
            allWays(fact + 1, more, asked, found);
        }
    }

    private Set<Integer> couldBe(int person, int d, int k, int fact, int so) {
        Set<Integer> found = new TreeSet<>();
        allWays(0, Set.of(), new int[] {person, d, k, fact, so}, found);
        return found;
    }

    private int reckon(int which, int person, int d, int k) {
        if (!of(person, now.persons) || !day(d, k)) {
            return Due.BEYOND;
        }
        Told told = settled(person, d, k, Set.of());
        int own = own(person, d, k, Set.of());
        return switch (which) {
            case 11 -> own < 0 ? Due.NONE : own;
            case 12 -> told.parish < 0 ? Due.NONE : told.parish;
            case 13 -> told.person;
            case 14 -> couldBe(person, d, k, -1, 0).stream().mapToInt(p -> 1 << p).sum();
            default -> question(person, d, k);
        };
    }

    private int question(int person, int d, int k) {
        int best = Due.NONE;
        int least = 100;
        for (int f = 0; f < now.facts.size(); f++) {
            if (now.facts.get(f).doubted) {
                int most = Math.max(couldBe(person, d, k, f, 1).size(), couldBe(person, d, k, f, 0).size());
                if (most < least) {
                    least = most;
                    best = f;
                }
            }
        }
        return best;
    }

    private int order(int person, int from, int to, int when) {
        if (!of(person, now.persons) || !of(from, now.worth) || !of(to, now.worth) || !day(when)) {
            return Due.BEYOND;
        }
        if (from == to) {
            return Due.SIZE;
        }
        int miles = now.miles[Math.min(from, to)][Math.max(from, to)];
        return added(now.orders, new Order(person, from, to, when, 4 * miles, 0), 20);
    }

    private int appeal(int order, int when) {
        if (!of(order, now.orders) || !day(when)) {
            return Due.BEYOND;
        }
        Order o = now.orders.get(order);
        if (o.state != 0) {
            return Due.KIND;
        }
        if (when < o.day || when > o.day + now.term) {
            return Due.LATE;
        }
        int quashed = settled(o.person, o.day, when, Set.of()).parish == o.to ? 0 : 1;
        now.orders.set(order, new Order(o.person, o.from, o.to, o.day, o.costs, 1 + quashed));
        return quashed;
    }

    private int ordered(int order, int what) {
        if (!of(order, now.orders) || !in(what, 0, 5)) {
            return Due.BEYOND;
        }
        Order o = now.orders.get(order);
        return new int[] {o.person, o.from, o.to, o.day, o.costs, o.state}[what];
    }

    private int costs(int parish) {
        if (!of(parish, now.worth)) {
            return Due.BEYOND;
        }
        return now.orders.stream().filter(o -> (o.state < 2 ? o.to : o.from) == parish).mapToInt(Order::costs).sum();
    }

    private int set(int what, int v) {
        if (what == 0 && in(v, 0, 999)) {
            int was = now.term;
            now.term = v;
            return was;
        }
        if (what == 1 && in(v, 1, 20)) {
            int was = now.scale;
            now.scale = v;
            return was;
        }
        return Due.BEYOND;
    }

    private int list(int person, int parish, int week) {
        if (!of(person, now.persons) || parish != -1 && (!of(parish, now.worth) || !in(week, 0, 59))) {
            return Due.BEYOND;
        }
        Person p = now.persons.get(person);
        now.persons.set(person, p.withList(parish, week));
        return p.list;
    }

    private int earns(int person, int v) {
        if (!of(person, now.persons) || !in(v, 0, 999)) {
            return Due.BEYOND;
        }
        Person p = now.persons.get(person);
        now.persons.set(person, p.withEarns(v));
        return p.earns;
    }

    private int price(int week, int v) {
        if (!in(week, 0, 59) || !in(v, 0, 99)) {
            return Due.BEYOND;
        }
        int was = now.prices[week];
        now.prices[week] = v;
        return was;
    }

    private boolean listed(Person p, int parish, int week) {
        return parish >= 0 && p.list == parish && p.week <= week;
    }

    private int reliefIn(int person, int week) {
        Person p = now.persons.get(person);
        if (p.kind == 1 && p.other >= 0 && listed(now.persons.get(p.other), p.list, week)) {
            return 0;
        }
        long wives = now.persons.stream()
                .filter(w -> w.kind == 1 && w.other == person && listed(w, p.list, week)).count();
        long need = (now.scale + 2 * wives) * now.prices[week] - p.earns;
        return need < 0 ? 0 : (int) need;
    }

    private int relief(int person, int week) {
        if (!of(person, now.persons) || !in(week, 0, 59)) {
            return Due.BEYOND;
        }
        if (!listed(now.persons.get(person), now.persons.get(person).list, week)) {
            return Due.NONE;
        }
        return now.prices[week] == 0 ? Due.MISSING : reliefIn(person, week);
    }

    private int week(int parish, int week) {
        if (!of(parish, now.worth) || !in(week, 0, 59)) {
            return Due.BEYOND;
        }
        if (now.prices[week] == 0) {
            return Due.MISSING;
        }
        int all = 0;
        for (int p = 0; p < now.persons.size(); p++) {
            all += listed(now.persons.get(p), parish, week) ? reliefIn(p, week) : 0;
        }
        return all;
    }

    private int rate(int parish, int pounds) {
        if (!of(parish, now.worth) || !in(pounds, 0, 10000)) {
            return Due.BEYOND;
        }
        long all = now.worth.stream().mapToLong(w -> w).sum();
        if (all == 0) {
            return Due.NONE;
        }
        long[] shares = new long[now.worth.size()];
        long left = pounds;
        List<Integer> byRest = new ArrayList<>();
        for (int p = 0; p < shares.length; p++) {
            shares[p] = (long) now.worth.get(p) * pounds / all;
            left -= shares[p];
            byRest.add(p);
        }
        byRest.sort((p, q) -> Long.compare((long) now.worth.get(q) * pounds % all, (long) now.worth.get(p) * pounds % all));
        for (int i = 0; i < left; i++) {
            shares[byRest.get(i)]++;
        }
        return (int) shares[parish];
    }

    private int sheet(int s, int width, int n) {
        if (!in(s, 0, 3) || !Set.of(0, 8, 16, 32).contains(width)) {
            return Due.BEYOND;
        }
        if (n < 0) {
            return Due.SIZE;
        }
        if (n > 60) {
            return Due.BEYOND;
        }
        bits[s] = width;
        sheets[s] = width == 0 ? null : new long[n];
        return width == 0 ? 0 : n;
    }

    private int put(int s, int i, int v) {
        if (!in(s, 0, 3)) {
            return Due.BEYOND;
        }
        if (sheets[s] == null) {
            return Due.MISSING;
        }
        if (!in(i, 0, sheets[s].length - 1)) {
            return Due.BEYOND;
        }
        sheets[s][i] = v & ((1L << bits[s]) - 1);
        return 0;
    }

    private int copy(int s, int from, int t, int to, int n) {
        if (!in(s, 0, 3) || !in(t, 0, 3)) {
            return Due.BEYOND;
        }
        if (sheets[s] == null || sheets[t] == null) {
            return Due.MISSING;
        }
        if (bits[s] != bits[t]) {
            return Due.KIND;
        }
        if (from < 0 || to < 0 || n < 0 || (long) from + n > sheets[s].length || (long) to + n > sheets[t].length) {
            return Due.BEYOND;
        }
        long[] before = sheets[s].clone();
        for (int i = 0; i < n; i++) {
            sheets[t][to + i] = before[from + i];
        }
        return n;
    }

    private int read(int s) {
        if (!in(s, 0, 3)) {
            return Due.BEYOND;
        }
        if (sheets[s] == null) {
            return Due.MISSING;
        }
        int came = 0;
        for (int w = 0; w < sheets[s].length; w++) {
            boolean isPrice = sheets[s][w] >= 1 && sheets[s][w] <= 99;
            now.prices[w] = isPrice ? (int) sheets[s][w] : 0;
            came += isPrice ? 1 : 0;
        }
        return came;
    }

    private int keep() {
        kept = now.copy();
        return now.persons.size();
    }

    private int back() {
        if (kept == null) {
            return Due.NONE;
        }
        now = kept.copy();
        return now.persons.size();
    }

    private int told(int what) {
        return switch (what) {
            case 0 -> now.worth.size();
            case 1 -> now.persons.size();
            case 2 -> now.facts.size();
            case 3 -> now.laws.size();
            case 4 -> now.orders.size();
            case 5 -> findings;
            case 6 -> doubtedFacts();
            default -> Due.BEYOND;
        };
    }
}
