import java.util.Arrays;

/** A desk that tells whose poor they are; what each call does is told in the document, by promises. */
public final class PoorDesk {
    private static final int BEYOND = -100001;
    private static final int MISSING = -100002;
    private static final int SIZE = -100003;
    private static final int KIND = -100004;
    private static final int FULL = -100005;
    private static final int NONE = -100006;
    private static final int RING = -100007;
    private static final int LATE = -100008;

    private static final int NOBODY = -1;
    private static final int NOWHERE = -1;
    private static final int NEVER = -1;

    private static final int MOST_PARISHES = 6;
    private static final int MOST_PERSONS = 10;
    private static final int MOST_FACTS = 24;
    private static final int MOST_DOUBTED = 8;
    private static final int MOST_LAWS = 12;
    private static final int MOST_ORDERS = 20;
    private static final int WEEKS = 60;
    private static final int SHEETS = 4;
    private static final int MOST_NUMBERS = 60;

    private static final int LAST_DAY = 9999;
    private static final int MOST_WORTH = 10000;
    private static final int MOST_MILES = 99;
    private static final int MOST_POUNDS = 99;
    private static final int MOST_NUMBER = 9999;
    private static final int MOST_TERM = 999;
    private static final int MOST_SCALE = 20;
    private static final int MOST_PRICE = 99;
    private static final int MOST_EARNED = 999;
    private static final int MOST_RATE = 10000;
    private static final int COST_OF_A_MILE = 4;
    private static final int LOAVES_OF_A_WIFE = 2;

    private static final int PERSON = 0;
    private static final int WIFE = 1;
    private static final int CHILD = 2;
    private static final int FOUNDLING = 3;

    private static final int SERVICE = 0;
    private static final int RENT = 1;

    private static final int BIRTH_LAW = 0;
    private static final int SERVICE_LAW = 1;
    private static final int RENT_LAW = 2;
    private static final int MARRIAGE_LAW = 3;
    private static final int FATHER_LAW = 4;

    private static final int STANDS = 0;
    private static final int CONFIRMED = 1;
    private static final int QUASHED = 2;

    private final Book book;
    private final Book kept;
    private final Reckoner reckoner;
    private final Sheet[] sheets;
    private boolean isKept;
    private int findings;

    public PoorDesk() {
        book = new Book();
        kept = new Book();
        reckoner = new Reckoner(book);
        sheets = new Sheet[SHEETS];
        for (int s = 0; s < SHEETS; s++) {
            sheets[s] = new Sheet();
        }
        isKept = false;
        findings = 0;
    }

    // ---- parishes, persons

    public int parish(int worth) {
        if (!within(worth, 0, MOST_WORTH)) {
            return finding(BEYOND);
        }
        if (book.parishes.count >= MOST_PARISHES) {
            return finding(FULL);
        }
        return book.parishes.add(worth);
    }

    public int miles(int a, int b, int v) {
        if (!book.parishes.has(a) || !book.parishes.has(b) || !within(v, 0, MOST_MILES)) {
            return finding(BEYOND);
        }
        if (a == b) {
            return finding(SIZE);
        }
        int before = book.parishes.miles[a][b];
        book.parishes.miles[a][b] = v;
        book.parishes.miles[b][a] = v;
        return before;
    }

    public int person(int kind, int parish, int born) {
        if (!within(kind, PERSON, FOUNDLING) || !book.parishes.has(parish) || !isDay(born)) {
            return finding(BEYOND);
        }
        if (book.persons.count >= MOST_PERSONS) {
            return finding(FULL);
        }
        int number = book.persons.add(kind, parish, born);
        book.poor.enter(number);
        return number;
    }

    public int as(int person, int kind) {
        if (!book.persons.has(person) || !within(kind, PERSON, FOUNDLING)) {
            return finding(BEYOND);
        }
        if (!book.persons.isOf(person, kind)) {
            return finding(KIND);
        }
        return person;
    }

    public int husband(int wife, int husband, int day) {
        boolean isNone = husband == NOBODY;
        if (!book.persons.has(wife) || !isNone && (!book.persons.has(husband) || !isDay(day))) {
            return finding(BEYOND);
        }
        if (book.persons.kind[wife] != WIFE) {
            return finding(KIND);
        }
        if (book.persons.comesTo(husband, wife)) {
            return finding(RING);
        }
        return book.persons.follow(wife, husband, isNone ? 0 : day);
    }

    public int father(int child, int father) {
        if (!book.persons.has(child) || father != NOBODY && !book.persons.has(father)) {
            return finding(BEYOND);
        }
        if (book.persons.kind[child] != CHILD) {
            return finding(KIND);
        }
        if (book.persons.comesTo(father, child)) {
            return finding(RING);
        }
        return book.persons.follow(child, father, 0);
    }

    // ---- facts, laws

    public int fact(int kind, int person, int parish, int pounds, int from, int to, int known) {
        if (!within(kind, SERVICE, RENT) || !book.persons.has(person) || !book.parishes.has(parish)
                || kind == RENT && !within(pounds, 0, MOST_POUNDS)
                || !isDay(from) || !isDay(to) || !isDay(known)) {
            return finding(BEYOND);
        }
        if (from > to) {
            return finding(SIZE);
        }
        if (book.facts.count >= MOST_FACTS) {
            return finding(FULL);
        }
        return book.facts.add(kind, person, parish, pounds, from, to, known);
    }

    public int doubt(int fact, boolean on) {
        if (!book.facts.has(fact)) {
            return finding(BEYOND);
        }
        if (book.facts.isDoubted(fact) == on) {
            return 0;
        }
        if (on && book.facts.countDoubted() >= MOST_DOUBTED) {
            return finding(FULL);
        }
        book.facts.doubted[fact] = on ? 1 : 0;
        return 1;
    }

    public int forget() {
        if (book.facts.count <= 0) {
            return finding(NONE);
        }
        book.facts.count--;
        return book.facts.count;
    }

    public int law(int kind, int number, int from, int to) {
        if (!within(kind, BIRTH_LAW, FATHER_LAW) || !isDay(from) || !isDay(to)
                || hasNumber(kind) && !within(number, 0, MOST_NUMBER)) {
            return finding(BEYOND);
        }
        if (from > to) {
            return finding(SIZE);
        }
        if (book.laws.count >= MOST_LAWS) {
            return finding(FULL);
        }
        return book.laws.add(kind, number, from, to);
    }

    public int ends(int law, int day) {
        if (!book.laws.has(law) || !isDay(day)) {
            return finding(BEYOND);
        }
        if (day < book.laws.from[law]) {
            return finding(SIZE);
        }
        int before = book.laws.to[law];
        book.laws.to[law] = day;
        return before;
    }

    // ---- settlements

    public int own(int person, int day, int known) {
        if (!canReckon(person, day, known)) {
            return finding(BEYOND);
        }
        return parishOrNone(reckoner.ownOf(person, day, known));
    }

    public int settlement(int person, int day, int known) {
        if (!canReckon(person, day, known)) {
            return finding(BEYOND);
        }
        return parishOrNone(reckoner.settlementOf(person, day, known));
    }

    public int through(int person, int day, int known) {
        if (!canReckon(person, day, known)) {
            return finding(BEYOND);
        }
        return reckoner.tellerOf(person, day, known);
    }

    public int could(int person, int day, int known) {
        if (!canReckon(person, day, known)) {
            return finding(BEYOND);
        }
        return reckoner.couldBe(person, day, known);
    }

    public int question(int person, int day, int known) {
        if (!canReckon(person, day, known)) {
            return finding(BEYOND);
        }
        if (book.facts.countDoubted() == 0) {
            return finding(NONE);
        }
        return reckoner.bestQuestion(person, day, known);
    }

    // ---- orders

    public int order(int person, int from, int to, int day) {
        if (!book.persons.has(person) || !book.parishes.has(from) || !book.parishes.has(to) || !isDay(day)) {
            return finding(BEYOND);
        }
        if (from == to) {
            return finding(SIZE);
        }
        if (book.orders.count >= MOST_ORDERS) {
            return finding(FULL);
        }
        return book.orders.add(person, from, to, day, COST_OF_A_MILE * book.parishes.miles[from][to]);
    }

    public int appeal(int order, int day) {
        if (!book.orders.has(order) || !isDay(day)) {
            return finding(BEYOND);
        }
        if (book.orders.state[order] != STANDS) {
            return finding(KIND);
        }
        int taken = book.orders.day[order];
        if (day < taken || day - taken > book.term) {
            return finding(LATE);
        }
        int due = reckoner.settlementOf(book.orders.person[order], taken, day);
        boolean isRight = due == book.orders.to[order];
        book.orders.state[order] = isRight ? CONFIRMED : QUASHED;
        return isRight ? 0 : 1;
    }

    public int ordered(int order, int what) {
        if (!book.orders.has(order)) {
            return finding(BEYOND);
        }
        switch (what) {
            case 0:
                return book.orders.person[order];
            case 1:
                return book.orders.from[order];
            case 2:
                return book.orders.to[order];
            case 3:
                return book.orders.day[order];
            case 4:
                return book.orders.costs[order];
            case 5:
                return book.orders.state[order];
            default:
                return finding(BEYOND);
        }
    }

    public int costs(int parish) {
        if (!book.parishes.has(parish)) {
            return finding(BEYOND);
        }
        return book.orders.borneBy(parish);
    }

    public int set(int what, int v) {
        if (what == 0 && within(v, 0, MOST_TERM)) {
            int before = book.term;
            book.term = v;
            return before;
        }
        if (what == 1 && within(v, 1, MOST_SCALE)) {
            int before = book.poor.scale;
            book.poor.scale = v;
            return before;
        }
        return finding(BEYOND);
    }

    // ---- relief, rates

    public int list(int person, int parish, int week) {
        boolean isNone = parish == NOWHERE;
        if (!book.persons.has(person) || !isNone && (!book.parishes.has(parish) || !isWeek(week))) {
            return finding(BEYOND);
        }
        int before = book.poor.list[person];
        book.poor.list[person] = parish;
        book.poor.since[person] = isNone ? 0 : week;
        return before;
    }

    public int earns(int person, int v) {
        if (!book.persons.has(person) || !within(v, 0, MOST_EARNED)) {
            return finding(BEYOND);
        }
        int before = book.poor.earned[person];
        book.poor.earned[person] = v;
        return before;
    }

    public int price(int week, int v) {
        if (!isWeek(week) || !within(v, 0, MOST_PRICE)) {
            return finding(BEYOND);
        }
        int before = book.poor.prices[week];
        book.poor.prices[week] = v;
        return before;
    }

    public int relief(int person, int week) {
        if (!book.persons.has(person) || !isWeek(week)) {
            return finding(BEYOND);
        }
        if (book.poor.listIn(person, week) == NOWHERE) {
            return finding(NONE);
        }
        if (book.poor.prices[week] == 0) {
            return finding(MISSING);
        }
        return book.poor.reliefOf(book.persons, person, week);
    }

    public int week(int parish, int week) {
        if (!book.parishes.has(parish) || !isWeek(week)) {
            return finding(BEYOND);
        }
        if (book.poor.prices[week] == 0) {
            return finding(MISSING);
        }
        return book.poor.reliefOfAll(book.persons, parish, week);
    }

    public int rate(int parish, int pounds) {
        if (!book.parishes.has(parish) || !within(pounds, 0, MOST_RATE)) {
            return finding(BEYOND);
        }
        int all = book.parishes.allWorth();
        if (all <= 0) {
            return finding(NONE);
        }
        return book.parishes.share(parish, pounds, all);
    }

    // ---- sheets, the whole

    public int sheet(int s, int bits, int n) {
        if (!isSheet(s) || bits != 0 && bits != 8 && bits != 16 && bits != 32) {
            return finding(BEYOND);
        }
        if (n < 0) {
            return finding(SIZE);
        }
        if (n > MOST_NUMBERS) {
            return finding(BEYOND);
        }
        sheets[s].lay(bits, bits == 0 ? 0 : n);
        return sheets[s].length;
    }

    public int put(int s, int i, int v) {
        if (!isSheet(s)) {
            return finding(BEYOND);
        }
        if (sheets[s].isMissing()) {
            return finding(MISSING);
        }
        if (i < 0 || i >= sheets[s].length) {
            return finding(BEYOND);
        }
        sheets[s].write(i, v);
        return 0;
    }

    public int copy(int s, int from, int t, int to, int n) {
        if (!isSheet(s) || !isSheet(t)) {
            return finding(BEYOND);
        }
        if (sheets[s].isMissing() || sheets[t].isMissing()) {
            return finding(MISSING);
        }
        if (sheets[s].bits != sheets[t].bits) {
            return finding(KIND);
        }
        if (!sheets[s].hasRun(from, n) || !sheets[t].hasRun(to, n)) {
            return finding(BEYOND);
        }
        System.arraycopy(sheets[s].numbers, from, sheets[t].numbers, to, n);
        return n;
    }

    public int read(int s) {
        if (!isSheet(s)) {
            return finding(BEYOND);
        }
        if (sheets[s].isMissing()) {
            return finding(MISSING);
        }
        return book.poor.readPrices(sheets[s]);
    }

    public int keep() {
        kept.become(book);
        isKept = true;
        return book.persons.count;
    }

    public int back() {
        if (!isKept) {
            return finding(NONE);
        }
        book.become(kept);
        return book.persons.count;
    }

    public int told(int what) {
        switch (what) {
            case 0:
                return book.parishes.count;
            case 1:
                return book.persons.count;
            case 2:
                return book.facts.count;
            case 3:
                return book.laws.count;
            case 4:
                return book.orders.count;
            case 5:
                return findings;
            case 6:
                return book.facts.countDoubted();
            default:
                return finding(BEYOND);
        }
    }

    // ---- what the calls share

    private int finding(int which) {
        findings++;
        return which;
    }

    private int parishOrNone(int parish) {
        return parish == NOWHERE ? finding(NONE) : parish;
    }

    private boolean canReckon(int person, int day, int known) {
        return book.persons.has(person) && isDay(day) && isDay(known);
    }

    private static boolean within(int v, int least, int most) {
        return v >= least && v <= most;
    }

    private static boolean isDay(int day) {
        return within(day, 0, LAST_DAY);
    }

    private static boolean isWeek(int week) {
        return within(week, 0, WEEKS - 1);
    }

    private static boolean isSheet(int s) {
        return within(s, 0, SHEETS - 1);
    }

    private static boolean hasNumber(int lawKind) {
        return lawKind != BIRTH_LAW && lawKind != MARRIAGE_LAW;
    }

    private static void copyRow(int[] from, int[] to) {
        System.arraycopy(from, 0, to, 0, Math.min(from.length, to.length));
    }

    /** All that keep() keeps. */
    private static final class Book {
        final Parishes parishes = new Parishes();
        final Persons persons = new Persons();
        final Facts facts = new Facts();
        final Laws laws = new Laws();
        final Orders orders = new Orders();
        final Poor poor = new Poor();
        int term = 60;

        void become(Book other) {
            parishes.become(other.parishes);
            persons.become(other.persons);
            facts.become(other.facts);
            laws.become(other.laws);
            orders.become(other.orders);
            poor.become(other.poor);
            term = other.term;
        }
    }

    private static final class Parishes {
        int count;
        final int[] worth = new int[MOST_PARISHES];
        final int[][] miles = new int[MOST_PARISHES][MOST_PARISHES];

        boolean has(int parish) {
            return parish >= 0 && parish < count;
        }

        int add(int itsWorth) {
            worth[count] = itsWorth;
            count++;
            return count - 1;
        }

        int allWorth() {
            int all = 0;
            for (int p = 0; p < count; p++) {
                all += worth[p];
            }
            return all;
        }

        int share(int parish, int pounds, int all) {
            if (all <= 0) {
                return 0;
            }
            int left = pounds;
            int ahead = 0;
            int rest = worth[parish] * pounds % all;
            for (int p = 0; p < count; p++) {
                left -= worth[p] * pounds / all;
                int other = worth[p] * pounds % all;
                if (other > rest || other == rest && p < parish) {
                    ahead++;
                }
            }
            return worth[parish] * pounds / all + (ahead < left ? 1 : 0);
        }

        void become(Parishes other) {
            count = other.count;
            copyRow(other.worth, worth);
            for (int p = 0; p < MOST_PARISHES; p++) {
                copyRow(other.miles[p], miles[p]);
            }
        }
    }

    private static final class Persons {
        private static final int[] KIND_OVER = {-1, PERSON, PERSON, CHILD};

        int count;
        final int[] kind = new int[MOST_PERSONS];
        final int[] birthplace = new int[MOST_PERSONS];
        final int[] born = new int[MOST_PERSONS];
        // One row serves HUSBANDS and FATHERS: no kind may have both.
        final int[] leader = new int[MOST_PERSONS];
        final int[] married = new int[MOST_PERSONS];

        boolean has(int person) {
            return person >= 0 && person < count;
        }

        int add(int itsKind, int parish, int day) {
            kind[count] = itsKind;
            birthplace[count] = parish;
            born[count] = day;
            leader[count] = NOBODY;
            married[count] = 0;
            count++;
            return count - 1;
        }

        boolean isOf(int person, int wanted) {
            int k = kind[person];
            for (int up = 0; up < KIND_OVER.length && k >= 0; up++) {
                if (k == wanted) {
                    return true;
                }
                k = KIND_OVER[k];
            }
            return false;
        }

        boolean comesTo(int start, int goal) {
            int p = start;
            for (int step = 0; step < MOST_PERSONS && has(p); step++) {
                if (p == goal) {
                    return true;
                }
                p = leader[p];
            }
            return false;
        }

        int follow(int person, int newLeader, int day) {
            int before = leader[person];
            leader[person] = newLeader;
            married[person] = day;
            return before;
        }

        boolean isWifeOf(int person, int husband) {
            return kind[person] == WIFE && leader[person] == husband;
        }

        void become(Persons other) {
            count = other.count;
            copyRow(other.kind, kind);
            copyRow(other.birthplace, birthplace);
            copyRow(other.born, born);
            copyRow(other.leader, leader);
            copyRow(other.married, married);
        }
    }

    private static final class Facts {
        int count;
        final int[] kind = new int[MOST_FACTS];
        final int[] person = new int[MOST_FACTS];
        final int[] parish = new int[MOST_FACTS];
        final int[] pounds = new int[MOST_FACTS];
        final int[] from = new int[MOST_FACTS];
        final int[] to = new int[MOST_FACTS];
        final int[] known = new int[MOST_FACTS];
        final int[] doubted = new int[MOST_FACTS];

        boolean has(int fact) {
            return fact >= 0 && fact < count;
        }

        int add(int itsKind, int whose, int where, int rent, int first, int last, int since) {
            kind[count] = itsKind;
            person[count] = whose;
            parish[count] = where;
            pounds[count] = rent;
            from[count] = first;
            to[count] = last;
            known[count] = since;
            doubted[count] = 0;
            count++;
            return count - 1;
        }

        boolean isDoubted(int fact) {
            return doubted[fact] == 1;
        }

        int countDoubted() {
            int found = 0;
            for (int f = 0; f < count; f++) {
                found += doubted[f];
            }
            return found;
        }

        void become(Facts other) {
            count = other.count;
            copyRow(other.kind, kind);
            copyRow(other.person, person);
            copyRow(other.parish, parish);
            copyRow(other.pounds, pounds);
            copyRow(other.from, from);
            copyRow(other.to, to);
            copyRow(other.known, known);
            copyRow(other.doubted, doubted);
        }
    }

    private static final class Laws {
        int count;
        final int[] kind = new int[MOST_LAWS];
        final int[] number = new int[MOST_LAWS];
        final int[] from = new int[MOST_LAWS];
        final int[] to = new int[MOST_LAWS];

        boolean has(int law) {
            return law >= 0 && law < count;
        }

        int add(int itsKind, int itsNumber, int first, int last) {
            kind[count] = itsKind;
            number[count] = itsNumber;
            from[count] = first;
            to[count] = last;
            count++;
            return count - 1;
        }

        boolean rules(int law, int wanted, int day) {
            return kind[law] == wanted && from[law] <= day && day <= to[law];
        }

        boolean anyRules(int wanted, int day) {
            for (int l = 0; l < count; l++) {
                if (rules(l, wanted, day)) {
                    return true;
                }
            }
            return false;
        }

        boolean anyAtMost(int wanted, int day, int measure) {
            for (int l = 0; l < count; l++) {
                if (rules(l, wanted, day) && number[l] <= measure) {
                    return true;
                }
            }
            return false;
        }

        boolean anyAbove(int wanted, int day, int measure) {
            for (int l = 0; l < count; l++) {
                if (rules(l, wanted, day) && number[l] > measure) {
                    return true;
                }
            }
            return false;
        }

        void become(Laws other) {
            count = other.count;
            copyRow(other.kind, kind);
            copyRow(other.number, number);
            copyRow(other.from, from);
            copyRow(other.to, to);
        }
    }

    private static final class Orders {
        int count;
        final int[] person = new int[MOST_ORDERS];
        final int[] from = new int[MOST_ORDERS];
        final int[] to = new int[MOST_ORDERS];
        final int[] day = new int[MOST_ORDERS];
        final int[] costs = new int[MOST_ORDERS];
        final int[] state = new int[MOST_ORDERS];

        boolean has(int order) {
            return order >= 0 && order < count;
        }

        int add(int whom, int whence, int where, int when, int cost) {
            person[count] = whom;
            from[count] = whence;
            to[count] = where;
            day[count] = when;
            costs[count] = cost;
            state[count] = STANDS;
            count++;
            return count - 1;
        }

        int borneBy(int parish) {
            int all = 0;
            for (int o = 0; o < count; o++) {
                int bearer = state[o] == QUASHED ? from[o] : to[o];
                if (bearer == parish) {
                    all += costs[o];
                }
            }
            return all;
        }

        void become(Orders other) {
            count = other.count;
            copyRow(other.person, person);
            copyRow(other.from, from);
            copyRow(other.to, to);
            copyRow(other.day, day);
            copyRow(other.costs, costs);
            copyRow(other.state, state);
        }
    }

    /** The lists of the poor, what they earn, and the prices of bread (0: MISSING). */
    private static final class Poor {
        int scale = 3;
        final int[] list = new int[MOST_PERSONS];
        final int[] since = new int[MOST_PERSONS];
        final int[] earned = new int[MOST_PERSONS];
        final int[] prices = new int[WEEKS];

        void enter(int person) {
            list[person] = NOWHERE;
            since[person] = 0;
            earned[person] = 0;
        }

        int listIn(int person, int week) {
            return since[person] <= week ? list[person] : NOWHERE;
        }

        int reliefOf(Persons persons, int person, int week) {
            int parish = listIn(person, week);
            if (parish == NOWHERE || isKeptByHusband(persons, person, week)) {
                return 0;
            }
            int loaves = scale;
            for (int p = 0; p < persons.count; p++) {
                if (persons.isWifeOf(p, person) && listIn(p, week) == parish) {
                    loaves += LOAVES_OF_A_WIFE;
                }
            }
            return Math.max(0, loaves * prices[week] - earned[person]);
        }

        boolean isKeptByHusband(Persons persons, int person, int week) {
            int husband = persons.leader[person];
            return persons.has(husband) && persons.isWifeOf(person, husband)
                    && listIn(husband, week) == listIn(person, week);
        }

        int reliefOfAll(Persons persons, int parish, int week) {
            int all = 0;
            for (int p = 0; p < persons.count; p++) {
                if (listIn(p, week) == parish) {
                    all += reliefOf(persons, p, week);
                }
            }
            return all;
        }

        int readPrices(Sheet sheet) {
            int found = 0;
            int weeks = Math.min(sheet.length, WEEKS);
            for (int w = 0; w < weeks; w++) {
                boolean isPrice = within(sheet.numbers[w], 1, MOST_PRICE);
                prices[w] = isPrice ? sheet.numbers[w] : 0;
                found += isPrice ? 1 : 0;
            }
            return found;
        }

        void become(Poor other) {
            scale = other.scale;
            copyRow(other.list, list);
            copyRow(other.since, since);
            copyRow(other.earned, earned);
            copyRow(other.prices, prices);
        }
    }

    /**
     * Tells settlements by the book. Its rows are made once and filled anew by each reckoning. Whom one goes by does
     * not hang on facts, so the gains that may tell have one order, whichever facts are so: those of the farthest in
     * the line first, of each person the latest first. The first of them that is so tells.
     */
    private static final class Reckoner {
        // By what one is settled, where it is by no fact.
        private static final int NO_GAIN = -2;
        private static final int BY_BIRTH = -1;
        // Each turn but the last has a DOUBTED fact of its own.
        private static final int MOST_TURNS = MOST_DOUBTED + 1;

        private final Book book;
        private final int[] gainDay = new int[MOST_FACTS];
        // The person, then whom it goes by, then whom that one goes by, and so on.
        private final int[] line = new int[MOST_PERSONS];
        private final int[] birthDay = new int[MOST_PERSONS];
        private final int[] gainOfTurn = new int[MOST_TURNS];
        private final int[] bitOfTurn = new int[MOST_TURNS];
        private int lineLength;
        private int turns;

        Reckoner(Book book) {
            this.book = book;
        }

        int ownOf(int person, int day, int known) {
            prepare(person, day, known);
            return parishBy(0, latestGain(0, 0));
        }

        int settlementOf(int person, int day, int known) {
            prepare(person, day, known);
            int at = teller(0);
            return parishBy(at, latestGain(at, 0));
        }

        int tellerOf(int person, int day, int known) {
            prepare(person, day, known);
            return line[teller(0)];
        }

        int couldBe(int person, int day, int known) {
            prepare(person, day, known);
            takeTurns();
            // NO_GAIN stands in the last turn or in none, so this is the set of all turns.
            return setUpTo(NO_GAIN);
        }

        int bestQuestion(int person, int day, int known) {
            prepare(person, day, known);
            takeTurns();
            int best = NONE;
            int least = MOST_PARISHES + 2;
            for (int f = 0; f < book.facts.count; f++) {
                int most = book.facts.isDoubted(f) ? mostLeftBy(f) : least;
                if (most < least) {
                    least = most;
                    best = f;
                }
            }
            return best;
        }

        private void prepare(int person, int day, int known) {
            for (int f = 0; f < book.facts.count; f++) {
                gainDay[f] = book.facts.known[f] <= known ? gainByFact(f, day) : NEVER;
            }
            lineLength = 0;
            int p = person;
            while (lineLength < MOST_PERSONS && book.persons.has(p)) {
                line[lineLength] = p;
                birthDay[lineLength] = gainByBirth(p, day);
                lineLength++;
                p = leaderOf(p, day);
            }
        }

        private int gainByFact(int fact, int day) {
            int first = book.facts.from[fact];
            int last = book.facts.to[fact];
            boolean isService = book.facts.kind[fact] == SERVICE;
            int gained = isService ? last : first;
            boolean isLawful = isService
                    ? book.laws.anyAtMost(SERVICE_LAW, last, last - first + 1)
                    : book.laws.anyAtMost(RENT_LAW, first, book.facts.pounds[fact]);
            return isLawful && gained <= day ? gained : NEVER;
        }

        private int gainByBirth(int person, int day) {
            int born = book.persons.born[person];
            return born <= day && book.laws.anyRules(BIRTH_LAW, born) ? born : NEVER;
        }

        private int leaderOf(int person, int day) {
            int born = book.persons.born[person];
            int married = book.persons.married[person];
            boolean goes = false;
            if (book.persons.kind[person] == WIFE) {
                goes = married <= day && book.laws.anyRules(MARRIAGE_LAW, married);
            } else if (book.persons.kind[person] == CHILD) {
                goes = born <= day && book.laws.anyAbove(FATHER_LAW, born, day - born);
            }
            return goes ? book.persons.leader[person] : NOBODY;
        }

        /** By what one in the line is settled of its own without the facts whose bits are in denied. */
        private int latestGain(int at, int denied) {
            int latest = birthDay[at];
            int gain = latest == NEVER ? NO_GAIN : BY_BIRTH;
            for (int f = 0; f < book.facts.count; f++) {
                boolean counts = book.facts.person[f] == line[at] && (denied >> f & 1) == 0;
                if (counts && gainDay[f] != NEVER && gainDay[f] >= latest) {
                    gain = f;
                    latest = gainDay[f];
                }
            }
            return gain;
        }

        private int parishBy(int at, int gain) {
            if (gain == BY_BIRTH) {
                return book.persons.birthplace[line[at]];
            }
            return book.facts.has(gain) ? book.facts.parish[gain] : NOWHERE;
        }

        /** The farthest in the line with a settlement of its own tells; without any, the person itself. */
        private int teller(int denied) {
            for (int at = lineLength - 1; at > 0; at--) {
                if (latestGain(at, denied) != NO_GAIN) {
                    return at;
                }
            }
            return 0;
        }

        /** The gain that tells; while that is DOUBTED, the one that tells if it is not so, and so on. */
        private void takeTurns() {
            int denied = 0;
            boolean isOpen = true;
            turns = 0;
            while (turns < MOST_TURNS && isOpen) {
                int at = teller(denied);
                int gain = latestGain(at, denied);
                int parish = parishBy(at, gain);
                gainOfTurn[turns] = gain;
                bitOfTurn[turns] = 1 << (parish == NOWHERE ? MOST_PARISHES : parish);
                turns++;
                isOpen = book.facts.has(gain) && book.facts.isDoubted(gain);
                denied |= isOpen ? 1 << gain : 0;
            }
        }

        private int mostLeftBy(int fact) {
            return Math.max(Integer.bitCount(setUpTo(fact)), Integer.bitCount(setWithout(fact)));
        }

        /** What could be if a fact is so: no turn behind its own is taken. Of one that has no turn, all. */
        private int setUpTo(int gain) {
            int set = 0;
            for (int t = 0; t < turns; t++) {
                set |= bitOfTurn[t];
                if (gainOfTurn[t] == gain) {
                    return set;
                }
            }
            return set;
        }

        /** What could be if a fact is not so. */
        private int setWithout(int fact) {
            int set = 0;
            for (int t = 0; t < turns; t++) {
                set |= gainOfTurn[t] == fact ? 0 : bitOfTurn[t];
            }
            return set;
        }
    }

    /** A row of numbers; without bits it is MISSING. */
    private static final class Sheet {
        int bits;
        int length;
        final int[] numbers = new int[MOST_NUMBERS];

        boolean isMissing() {
            return bits == 0;
        }

        void lay(int itsBits, int itsLength) {
            bits = itsBits;
            length = itsLength;
            Arrays.fill(numbers, 0);
        }

        void write(int i, int v) {
            int spare = 32 - bits;
            numbers[i] = v << spare >> spare;
        }

        boolean hasRun(int start, int n) {
            return start >= 0 && n >= 0 && n <= length && start <= length - n;
        }
    }
}
