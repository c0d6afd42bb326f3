/** The sentences of 'Terms' on gains, settlements, orders, relief and rates. */
final class TermsReckonEdges {
    private static final World FOUR = World.people();
    private static final World SETTLED = World.settled();

    private TermsReckonEdges() {
    }

    static void tell(Sentences all) {
        int terms = Sentences.TERMS;
        all.test(terms, "GAINS of a person up to a day D, by what is KNOWN at a day K: by BIRTH on the day of birth, if that "
                + "is D at most, and a law BIRTH is in force on it: the parish of birth.", TermsReckonEdges::birth);
        all.test(terms, "By a SERVICE (KNOWN since K at most) on its last day, if that is D at most, and a law SERVICE is in "
                + "force on it whose NUMBER is at most its days (the last less the first, and 1 more).",
                TermsReckonEdges::service);
        all.test(terms, "By a RENT (KNOWN since K at most) on its first day, if that is D at most, and a law RENT is in force "
                + "on it whose NUMBER is at most its pounds.", TermsReckonEdges::rent);
        all.test(terms, "ITS OWN SETTLEMENT is the parish of the latest GAIN; of several on one day that of the greatest FACT "
                + "(BIRTH counts as less than all); none without.", TermsReckonEdges::latest);
        all.test(terms, "THE SETTLEMENT of a person on D by what is KNOWN at K (DOUBTED facts counted): of a WIFE with a "
                + "HUSBAND from a day up to D on, if a law MARRIAGE was in force on that first day: her HUSBAND'S SETTLEMENT "
                + "on D, if he has one; else her own.", TermsReckonEdges::wives);
        all.test(terms, "Of a CHILD (no FOUNDLING) with a FATHER, if D is not ahead of its birth, and its age on D (D less "
                + "the day of birth) is below the NUMBER of some law FATHER that was in force on the day of birth: its "
                + "FATHER'S SETTLEMENT on D, if he has one; else its own.", TermsReckonEdges::children);
        all.test(terms, "Of all others their own.", TermsReckonEdges::others);
        all.test(terms, "COULD BE: let DOUBTED facts be so or not so, in all ways: the set of all parishes that are THE "
                + "SETTLEMENT in some way (bit 6: in some way there is none).", TermsReckonEdges::couldBe);
        all.test(terms, "THE QUESTION: the DOUBTED fact by which the greater of two numbers is least: how many there are in "
                + "that set if it is so, and how many if it is not; of several the least fact.",
                TermsReckonEdges::theQuestion);
        all.test(terms, "AN ORDER takes a person from a parish to another one on a day; its COSTS are 4 for each of the MILES "
                + "then; it STANDS at first.", TermsReckonEdges::orders);
        all.test(terms, "AN APPEAL on a day, not ahead of the ORDER's and at most TERM days (0 to 999; 60 at first) behind it: "
                + "if THE SETTLEMENT of the person on the ORDER's day, by what is KNOWN on the day of the APPEAL, is where it "
                + "was taken, it is CONFIRMED, else QUASHED.", TermsReckonEdges::appeals);
        all.test(terms, "COSTS are borne by the parish to which it took; of a QUASHED one by that from which it took.",
                TermsReckonEdges::borne);
        all.test(terms, "A person is on the LIST of a parish from a week on (weeks 0 to 59), or on none (at first).",
                TermsReckonEdges::lists);
        all.test(terms, "PRICE of bread in a week: 1 to 99, or MISSING (at first).", TermsReckonEdges::prices);
        all.test(terms, "EARNS of a person: 0 to 999 (0 at first).", TermsReckonEdges::earned);
        all.test(terms, "RELIEF of a person on a LIST in a week: LOAVES times the PRICE, less what it EARNS, at least 0; LOAVES "
                + "are SCALE (1 to 20; 3 at first), and 2 more for each WIFE of it who is on the same LIST that week; a WIFE "
                + "whose HUSBAND is on the same LIST that week has 0.", TermsReckonEdges::relief);
        all.test(terms, "A RATE of so many pounds is shared: to each parish WORTH times the pounds by all WORTH together, cut; "
                + "the pounds that are left one each to those with the greatest rest, of several the lower first.",
                TermsReckonEdges::rates);
    }

    private static void birth() {
        for (int p = 1; p < 4; p++) {
            int person = p;
            Due.answers("the day ahead: " + p, SETTLED, x -> x.own(person, 9, 9999), Due.NONE);
            Due.answers("the day of birth: " + p, SETTLED, x -> x.own(person, 10, 0), p % 2);
            Due.answers("the last day: " + p, SETTLED, x -> x.own(person, 9999, 0), p % 2);
            Due.answers("without a law: " + p, FOUR, x -> x.own(person, 10, 0), Due.NONE);
            Due.answers("a law the day ahead: " + p, FOUR.then(x -> x.law(0, 0, 0, 9)),
                    x -> x.own(person, 10, 0), Due.NONE);
            Due.answers("a law the day behind: " + p, FOUR.then(x -> x.law(0, 0, 11, 99)),
                    x -> x.own(person, 50, 0), Due.NONE);
            Due.answers("a law that day: " + p, FOUR.then(x -> x.law(0, 0, 10, 10)), x -> x.own(person, 50, 0), p % 2);
        }
        for (int kind = 1; kind <= 4; kind++) {
            int other = kind;
            Due.answers("a law of kind " + kind, FOUR.then(x -> x.law(other, 0, 0, 99)),
                    x -> x.own(1, 50, 50), Due.NONE);
        }
        World ends = World.parishes(1).then(x -> x.person(0, 0, 0)).then(x -> x.person(0, 0, 9999))
                .then(x -> x.law(0, 0, 0, 9999));
        Due.answers("born on day 0", ends, x -> x.own(0, 0, 0), 0);
        Due.answers("born on the last day", ends, x -> x.own(1, 9999, 0), 0);
        Due.answers("born on the last day, the day ahead", ends, x -> x.own(1, 9998, 9999), Due.NONE);
    }

    private static World serves(int number, int from, int to, int known) {
        return FOUR.then(x -> x.law(1, number, 0, 9999)).then(x -> x.fact(0, 0, 1, 0, from, to, known));
    }

    private static void service() {
        World w = serves(5, 20, 24, 30);
        Due.answers("on its last day", w, x -> x.own(0, 24, 30), 1);
        Due.answers("the day ahead of its last", w, x -> x.own(0, 23, 30), Due.NONE);
        Due.answers("not KNOWN yet", w, x -> x.own(0, 24, 29), Due.NONE);
        Due.answers("long behind", w, x -> x.own(0, 9999, 9999), 1);
        Due.answers("one day too few", serves(5, 21, 24, 0), x -> x.own(0, 9999, 9999), Due.NONE);
        Due.answers("one day more", serves(5, 19, 24, 0), x -> x.own(0, 24, 0), 1);
        Due.answers("a NUMBER of 0 on one day", serves(0, 0, 0, 0), x -> x.own(0, 0, 0), 1);
        Due.answers("a NUMBER of 1 on one day", serves(1, 0, 0, 0), x -> x.own(0, 0, 0), 1);
        Due.answers("a NUMBER of 2 on one day", serves(2, 0, 0, 0), x -> x.own(0, 0, 0), Due.NONE);
        Due.answers("a NUMBER of 9999 on 9999 days", serves(9999, 0, 9998, 0), x -> x.own(0, 9998, 0), 1);
        Due.answers("a NUMBER of 9999 on 9998 days", serves(9999, 0, 9997, 0), x -> x.own(0, 9999, 0), Due.NONE);
        Due.answers("a NUMBER of 9999 on all days", serves(9999, 0, 9999, 9999), x -> x.own(0, 9999, 9999), 1);
        Due.answers("on all days, the day ahead", serves(9999, 0, 9999, 0), x -> x.own(0, 9998, 0), Due.NONE);
        Due.answers("all days, not KNOWN", serves(9999, 0, 9999, 9999), x -> x.own(0, 9999, 9998), Due.NONE);
        World fact = FOUR.then(x -> x.fact(0, 0, 1, 0, 20, 24, 0));
        Due.answers("a law on the days ahead of its last", fact.then(x -> x.law(1, 1, 0, 23)),
                x -> x.own(0, 50, 0), Due.NONE);
        Due.answers("a law from its last day on", fact.then(x -> x.law(1, 1, 24, 99)), x -> x.own(0, 50, 0), 1);
        Due.answers("a law up to its last day", fact.then(x -> x.law(1, 1, 0, 24)), x -> x.own(0, 50, 0), 1);
        Due.answers("a law from the day behind on", fact.then(x -> x.law(1, 1, 25, 99)),
                x -> x.own(0, 50, 0), Due.NONE);
        World two = fact.then(x -> x.law(1, 6, 0, 99)).then(x -> x.law(1, 5, 24, 24));
        Due.answers("two laws, one of which does", two, x -> x.own(0, 50, 0), 1);
        Due.answers("two laws, neither does", fact.then(x -> x.law(1, 6, 0, 99)).then(x -> x.law(1, 5, 0, 23)),
                x -> x.own(0, 50, 0), Due.NONE);
        Due.answers("a law RENT", FOUR.then(x -> x.law(2, 0, 0, 99)).then(x -> x.fact(0, 0, 1, 99, 20, 24, 0)),
                x -> x.own(0, 50, 0), Due.NONE);
    }

    private static World rents(int number, int pounds) {
        return FOUR.then(x -> x.law(2, number, 0, 9999)).then(x -> x.fact(1, 0, 1, pounds, 20, 40, 30));
    }

    private static void rent() {
        World w = rents(10, 10);
        Due.answers("on its first day", w, x -> x.own(0, 20, 30), 1);
        Due.answers("the day ahead of its first", w, x -> x.own(0, 19, 30), Due.NONE);
        Due.answers("not KNOWN yet", w, x -> x.own(0, 20, 29), Due.NONE);
        Due.answers("behind its last day", w, x -> x.own(0, 9999, 30), 1);
        Due.answers("one pound too few", rents(10, 9), x -> x.own(0, 9999, 9999), Due.NONE);
        Due.answers("one pound more", rents(10, 11), x -> x.own(0, 20, 30), 1);
        Due.answers("a NUMBER of 0, no pound", rents(0, 0), x -> x.own(0, 20, 30), 1);
        Due.answers("a NUMBER of 1, no pound", rents(1, 0), x -> x.own(0, 20, 30), Due.NONE);
        Due.answers("a NUMBER of 99, 99 pounds", rents(99, 99), x -> x.own(0, 20, 30), 1);
        Due.answers("a NUMBER of 100, 99 pounds", rents(100, 99), x -> x.own(0, 20, 30), Due.NONE);
        Due.answers("a NUMBER of 9999, 99 pounds", rents(9999, 99), x -> x.own(0, 20, 30), Due.NONE);
        World fact = FOUR.then(x -> x.fact(1, 0, 1, 7, 20, 40, 0));
        Due.answers("a law up to the day ahead", fact.then(x -> x.law(2, 7, 0, 19)), x -> x.own(0, 50, 0), Due.NONE);
        Due.answers("a law up to its first day", fact.then(x -> x.law(2, 7, 0, 20)), x -> x.own(0, 50, 0), 1);
        Due.answers("a law from its first day on", fact.then(x -> x.law(2, 7, 20, 99)), x -> x.own(0, 50, 0), 1);
        Due.answers("a law from the day behind on", fact.then(x -> x.law(2, 7, 21, 99)),
                x -> x.own(0, 50, 0), Due.NONE);
        World two = fact.then(x -> x.law(2, 8, 0, 99)).then(x -> x.law(2, 7, 20, 20));
        Due.answers("two laws, one of which does", two, x -> x.own(0, 50, 0), 1);
        Due.answers("two laws, neither does", fact.then(x -> x.law(2, 8, 0, 99)).then(x -> x.law(2, 7, 21, 99)),
                x -> x.own(0, 50, 0), Due.NONE);
        Due.answers("a law SERVICE", fact.then(x -> x.law(1, 0, 0, 99)), x -> x.own(0, 50, 0), Due.NONE);
    }

    private static void latest() {
        World laws = World.parishes(4).then(x -> x.law(0, 0, 0, 99)).then(x -> x.law(1, 1, 0, 99))
                .then(x -> x.law(2, 1, 0, 99));
        Due.answers("none without", World.parishes(1).then(x -> x.person(0, 0, 0)),
                x -> x.own(0, 9999, 9999), Due.NONE);
        World w = laws.then(x -> x.person(0, 0, 10));
        World same = w.then(x -> x.fact(0, 0, 1, 0, 5, 10, 0));
        Due.answers("BIRTH is less than fact 0 of its day", same, x -> x.own(0, 10, 0), 1);
        Due.answers("BIRTH is later than a fact", w.then(x -> x.fact(0, 0, 1, 0, 5, 9, 0)), x -> x.own(0, 10, 0), 0);
        Due.answers("ahead of BIRTH", w.then(x -> x.fact(0, 0, 1, 0, 5, 9, 0)), x -> x.own(0, 9, 0), 1);
        World greater = same.then(x -> x.fact(1, 0, 2, 9, 10, 99, 0));
        Due.answers("a RENT, the greater fact of the day", greater, x -> x.own(0, 10, 0), 2);
        Due.answers("a SERVICE, the greater fact of the day", greater.then(x -> x.fact(0, 0, 3, 0, 1, 10, 0)),
                x -> x.own(0, 10, 0), 3);
        World later = w.then(x -> x.fact(0, 0, 1, 0, 11, 11, 0)).then(x -> x.fact(0, 0, 2, 0, 10, 10, 0));
        Due.answers("a later fact of a less number", later, x -> x.own(0, 11, 0), 1);
        Due.answers("the day ahead of it", later, x -> x.own(0, 10, 0), 2);
        World unknown = later.then(x -> x.fact(0, 0, 3, 0, 11, 11, 7));
        Due.answers("the greater one is not KNOWN", unknown, x -> x.own(0, 11, 6), 1);
        Due.answers("the greater one is KNOWN", unknown, x -> x.own(0, 11, 7), 3);
        World all = w.each(24, (x, f) -> x.fact(f % 2, 0, f % 4, 9, 20, 20, 0));
        Due.answers("24 facts of one day: the last", all, x -> x.own(0, 20, 0), 3);
        Due.answers("23 facts of one day: the last", all.then(x -> x.forget()), x -> x.own(0, 20, 0), 2);
        World other = w.then(x -> x.person(0, 0, 0)).then(x -> x.fact(0, 1, 3, 0, 50, 50, 0));
        Due.answers("a fact of another person", other, x -> x.own(0, 99, 99), 0);
    }

    /** WIFE 1 of PERSON 0 from a day on, both settled by birth on day 10, by a law MARRIAGE from day 20 to 30. */
    private static World married(int day) {
        return SETTLED.then(x -> x.law(3, 0, 20, 30)).then(x -> x.husband(1, 0, day));
    }

    private static void wives() {
        int[][] rows = {{0, 0}, {19, 0}, {20, 1}, {25, 1}, {30, 1}, {31, 0}, {9999, 0}};
        for (int[] row : rows) {
            int due = row[1] == 1 ? 0 : 1;
            Due.answers("married on day " + row[0], married(row[0]), x -> x.settlement(1, 9999, 0), due);
            Due.answers("married on day " + row[0] + ", that day", married(row[0]),
                    x -> x.settlement(1, Math.max(row[0], 10), 0), due);
        }
        Due.answers("the day ahead of the first", married(25), x -> x.settlement(1, 24, 0), 1);
        Due.answers("the first day", married(25), x -> x.settlement(1, 25, 0), 0);
        Due.answers("without a HUSBAND", SETTLED.then(x -> x.law(3, 0, 0, 99)), x -> x.settlement(1, 50, 0), 1);
        Due.answers("another law", SETTLED.then(x -> x.law(4, 99, 0, 99)).then(x -> x.husband(1, 0, 25)),
                x -> x.settlement(1, 50, 0), 1);
        World young = SETTLED.then(x -> x.law(3, 0, 0, 99)).then(x -> x.person(0, 0, 40)).then(x -> x.husband(1, 4, 5));
        Due.answers("he has none on D: her own", young, x -> x.settlement(1, 39, 0), 1);
        Due.answers("he has one on D", young, x -> x.settlement(1, 40, 0), 0);
        Due.answers("neither has one", young, x -> x.settlement(1, 9, 0), Due.NONE);
        World doubted = married(25).then(x -> x.law(1, 1, 0, 99)).then(x -> x.fact(0, 0, 1, 0, 40, 40, 50))
                .then(x -> x.doubt(0, true));
        Due.answers("his DOUBTED fact counts", doubted, x -> x.settlement(1, 40, 50), 1);
        Due.answers("his fact, the day ahead", doubted, x -> x.settlement(1, 39, 50), 0);
        Due.answers("his fact, not KNOWN", doubted, x -> x.settlement(1, 40, 49), 0);
        World two = married(25).then(x -> x.person(1, 1, 10)).then(x -> x.husband(4, 1, 20));
        Due.answers("her HUSBAND goes by another one, on D", two, x -> x.settlement(4, 25, 0), 0);
        Due.answers("her HUSBAND does not on D", two, x -> x.settlement(4, 24, 0), 1);
    }

    /** CHILD 2, born on day 10 and settled in 0, of FATHER 1, settled in 1, by a law FATHER of a NUMBER of days. */
    private static World child(int number, int from, int to) {
        return SETTLED.then(x -> x.law(4, number, from, to)).then(x -> x.father(2, 1));
    }

    private static void children() {
        Due.answers("of age 0 below 1", child(1, 10, 10), x -> x.settlement(2, 10, 0), 1);
        Due.answers("of age 1, not below 1", child(1, 10, 10), x -> x.settlement(2, 11, 0), 0);
        Due.answers("of age 0, not below 0", child(0, 10, 10), x -> x.settlement(2, 10, 0), 0);
        Due.answers("of age 6 below 7", child(7, 0, 99), x -> x.settlement(2, 16, 0), 1);
        Due.answers("of age 7, not below 7", child(7, 0, 99), x -> x.settlement(2, 17, 0), 0);
        Due.answers("of age 9989 below 9999", child(9999, 0, 99), x -> x.settlement(2, 9999, 0), 1);
        Due.answers("a law up to the day ahead of birth", child(99, 0, 9), x -> x.settlement(2, 10, 0), 0);
        Due.answers("a law up to the day of birth", child(99, 0, 10), x -> x.settlement(2, 50, 0), 1);
        Due.answers("a law from the day of birth on", child(99, 10, 99), x -> x.settlement(2, 50, 0), 1);
        Due.answers("a law from the day behind on", child(99, 11, 99), x -> x.settlement(2, 50, 0), 0);
        World some = child(5, 0, 99).then(x -> x.law(4, 8, 10, 10)).then(x -> x.law(4, 99, 11, 99));
        Due.answers("some law: of age 7 below 8", some, x -> x.settlement(2, 17, 0), 1);
        Due.answers("some law: of age 8", some, x -> x.settlement(2, 18, 0), 0);
        World old = World.parishes(2).then(x -> x.law(0, 0, 0, 9999)).then(x -> x.law(4, 9999, 0, 9999))
                .then(x -> x.person(0, 1, 0)).then(x -> x.person(2, 0, 0)).then(x -> x.father(1, 0));
        Due.answers("of age 9998 below 9999", old, x -> x.settlement(1, 9998, 0), 1);
        Due.answers("of age 9999, not below it", old, x -> x.settlement(1, 9999, 0), 0);
        World late = World.parishes(2).then(x -> x.law(4, 9999, 0, 9999)).then(x -> x.law(0, 0, 0, 9999))
                .then(x -> x.person(0, 1, 0)).then(x -> x.person(2, 0, 30)).then(x -> x.father(1, 0));
        Due.answers("ahead of its birth: its own, none", late, x -> x.settlement(1, 29, 0), Due.NONE);
        Due.answers("not ahead of its birth", late, x -> x.settlement(1, 30, 0), 1);
        World served = late.then(x -> x.law(1, 1, 0, 99)).then(x -> x.fact(0, 1, 0, 0, 20, 20, 0));
        Due.answers("ahead of its birth: its own, by a SERVICE", served, x -> x.settlement(1, 29, 0), 0);
        World lacks = SETTLED.then(x -> x.law(4, 99, 0, 99)).then(x -> x.person(0, 1, 40)).then(x -> x.father(2, 4));
        Due.answers("its FATHER has none: its own", lacks, x -> x.settlement(2, 39, 0), 0);
        Due.answers("its FATHER has one", lacks, x -> x.settlement(2, 40, 0), 1);
        Due.answers("without a FATHER", SETTLED.then(x -> x.law(4, 99, 0, 99)), x -> x.settlement(2, 10, 0), 0);
        Due.answers("another law", SETTLED.then(x -> x.law(3, 99, 0, 99)).then(x -> x.father(2, 1)),
                x -> x.settlement(2, 10, 0), 0);
    }

    /** Twelve laws, of kinds in turn, all from day 5000 on; a life of day 10, of which none of them is in force. */
    private static World unlawful() {
        return FOUR.each(12, (x, l) -> x.law(l % 5, 1, 5000, 9999)).then(x -> x.fact(0, 0, 1, 0, 10, 10, 0))
                .then(x -> x.fact(1, 0, 1, 99, 10, 10, 0)).then(x -> x.person(0, 0, 5000))
                .then(x -> x.husband(1, 4, 10)).then(x -> x.father(2, 4));
    }

    private static void others() {
        for (int p = 0; p < 4; p++) {
            int person = p;
            Due.answers("no law of twelve gives it one: " + p, unlawful(), x -> x.settlement(person, 9999, 9999), Due.NONE);
            Due.answers("nor lets it go by another: " + p, unlawful(), x -> x.through(person, 9999, 9999), p);
        }
        World w = child(99, 0, 99).then(x -> x.law(3, 0, 0, 99)).then(x -> x.husband(1, 0, 0));
        Due.answers("a PERSON", w, x -> x.settlement(0, 10, 0), 0);
        Due.answers("a FOUNDLING", w, x -> x.settlement(3, 10, 0), 1);
        Due.answers("a PERSON, told by itself", w, x -> x.through(0, 10, 0), 0);
        Due.answers("a FOUNDLING, told by itself", w, x -> x.through(3, 10, 0), 3);
        Due.answers("a PERSON without one", w, x -> x.settlement(0, 9, 0), Due.NONE);
        Due.answers("a FOUNDLING without one", w, x -> x.settlement(3, 9, 0), Due.NONE);
    }

    private static void couldBe() {
        World w = World.parishes(6).then(x -> x.person(0, 0, 0)).then(x -> x.person(1, 1, 0))
                .then(x -> x.law(1, 1, 0, 99))
                .then(x -> x.law(3, 0, 0, 99)).then(x -> x.husband(1, 0, 0));
        Due.answers("no fact", w, x -> x.could(1, 50, 50), 64);
        World one = w.then(x -> x.fact(0, 0, 5, 0, 10, 10, 20));
        Due.answers("a sure fact", one, x -> x.could(1, 50, 50), 32);
        World doubted = one.then(x -> x.doubt(0, true));
        Due.answers("a DOUBTED fact", doubted, x -> x.could(1, 50, 50), 32 + 64);
        Due.answers("a DOUBTED fact, the day ahead", doubted, x -> x.could(1, 9, 50), 64);
        Due.answers("a DOUBTED fact, not KNOWN", doubted, x -> x.could(1, 50, 19), 64);
        Due.answers("not DOUBTED again", doubted.then(x -> x.doubt(0, false)), x -> x.could(1, 50, 50), 32);
        World hers = doubted.then(x -> x.fact(0, 1, 3, 0, 30, 30, 0));
        Due.answers("her own, if his is not so", hers, x -> x.could(1, 50, 50), 32 + 8);
        Due.answers("his alone", hers, x -> x.could(0, 50, 50), 32 + 64);
        World both = hers.then(x -> x.doubt(1, true));
        Due.answers("in some way there is none", both, x -> x.could(1, 50, 50), 32 + 8 + 64);
        World born = both.then(x -> x.law(0, 0, 0, 0));
        Due.answers("in no way there is none", born, x -> x.could(1, 50, 50), 32 + 1);
        World eight = w.each(8, (x, f) -> x.fact(0, f < 4 ? 0 : 1, f % 6, 0, 10 + f, 10 + f, 0))
                .each(8, (x, f) -> x.doubt(f, true));
        Due.answers("8 DOUBTED facts of two persons", eight, x -> x.could(1, 50, 50), 127);
        Due.answers("those of one person", eight, x -> x.could(0, 50, 50), 15 + 64);
        Due.answers("it is asked twice", eight.then(x -> x.could(1, 50, 50)), x -> x.could(0, 50, 50), 15 + 64);
    }

    private static void theQuestion() {
        World w = World.parishes(6).then(x -> x.person(0, 0, 0)).then(x -> x.law(0, 0, 0, 0))
                .then(x -> x.law(1, 1, 0, 99));
        World three = w.then(x -> x.fact(0, 0, 0, 0, 1, 1, 0)).then(x -> x.fact(0, 0, 1, 0, 2, 2, 0))
                .then(x -> x.fact(0, 0, 2, 0, 3, 3, 0)).each(3, (x, f) -> x.doubt(f, true));
        // born in 0; 0: {0,1,2} twice; 1: {1,2} and {0,2}; 2: {2} and {0,1}: 3, 2, 2
        Due.answers("of several the least fact", three, x -> x.question(0, 50, 50), 1);
        // 1 is sure: 0: {1,2} twice; 2: {2} and {1}
        Due.answers("the greater number is least", three.then(x -> x.doubt(1, false)), x -> x.question(0, 50, 50), 2);
        // 2 is sure: {2} in all ways
        Due.answers("all are alike", three.then(x -> x.doubt(2, false)), x -> x.question(0, 50, 50), 0);
        Due.answers("the least is sure, the others alike", three.then(x -> x.doubt(0, false)),
                x -> x.question(0, 1, 50), 1);
        World four = w.then(x -> x.fact(0, 0, 1, 0, 1, 1, 0)).then(x -> x.fact(0, 0, 2, 0, 2, 2, 0))
                .then(x -> x.fact(0, 0, 2, 0, 3, 3, 0)).then(x -> x.fact(0, 0, 3, 0, 4, 4, 0))
                .each(4, (x, f) -> x.doubt(f, true));
        // 0: {1,2,3} and {0,2,3}: 3; 1: {2,3} and {0,1,2,3}: 4; 2: the same; 3: {3} and {0,1,2}: 3
        Due.answers("not the least of either number", four, x -> x.question(0, 50, 50), 0);
        // 0 is sure: 1: {2,3} and {1,2,3}: 3; 2: the same; 3: {3} and {1,2}: 2
        Due.answers("the last of four", four.then(x -> x.doubt(0, false)), x -> x.question(0, 50, 50), 3);
        World none = World.parishes(6).then(x -> x.person(0, 0, 0)).then(x -> x.law(1, 1, 0, 99))
                .then(x -> x.fact(0, 0, 1, 0, 1, 1, 0)).then(x -> x.fact(0, 0, 1, 0, 2, 2, 0))
                .each(2, (x, f) -> x.doubt(f, true));
        // 0: {1} and {1,none}: 2; 1: the same
        Due.answers("none is one of the set", none, x -> x.question(0, 50, 50), 0);
        // on day 1: 0: {1} and {none}: 1; 1: {1,none} twice: 2
        Due.answers("none alone is one", none, x -> x.question(0, 1, 50), 0);
        World last = none.then(x -> x.fact(0, 0, 2, 0, 3, 3, 0)).then(x -> x.doubt(2, true))
                .then(x -> x.doubt(0, false));
        // 0 is sure: 1: {1,2} twice; 2: {2} and {1}
        Due.answers("not counting none", last, x -> x.question(0, 50, 50), 2);
        theGreaterOfTwo();
        theQuestionOfAWife();
        theQuestionOfEach();
    }

    /** What one was asked of does not stay when another is asked of. */
    private static void theQuestionOfEach() {
        PoorDesk x = World.parishes(4).then(y -> y.person(0, 0, 0)).then(y -> y.person(0, 2, 0))
                .then(y -> y.law(0, 0, 0, 0))
                .then(y -> y.law(1, 1, 0, 99)).each(2, (y, f) -> y.fact(0, f, 1 + 2 * f, 0, 5, 5, 0))
                .each(2, (y, f) -> y.doubt(f, true)).make();
        for (int round = 0; round < 3; round++) {
            for (int person = 0; person < 2; person++) {
                Due.is("of person " + person + ", its own fact", x.question(person, 50, 50), person);
                Due.is("could it be", x.could(person, 50, 50), person == 0 ? 1 + 2 : 4 + 8);
            }
        }
    }

    private static void theGreaterOfTwo() {
        World w = World.parishes(3).then(x -> x.person(0, 0, 0)).then(x -> x.person(0, 2, 0))
                .then(x -> x.law(0, 0, 0, 0))
                .then(x -> x.law(1, 1, 0, 99));
        World later = w.then(x -> x.fact(0, 1, 2, 0, 2, 2, 0)).then(x -> x.fact(0, 1, 1, 0, 1, 1, 0))
                .each(2, (x, f) -> x.doubt(f, true));
        // born in 2; 0: {2} and {1,2}; 1: {1,2} and {2}: 2 and 2
        Due.answers("the greater is the one if it is so", later, x -> x.question(1, 50, 50), 0);
        World sooner = w.then(x -> x.fact(0, 1, 1, 0, 1, 1, 0)).then(x -> x.fact(0, 1, 2, 0, 2, 2, 0))
                .each(2, (x, f) -> x.doubt(f, true));
        // 0: {1,2} and {2}; 1: {2} and {1,2}
        Due.answers("the greater is the one if it is not", sooner, x -> x.question(1, 50, 50), 0);
        World six = World.parishes(6).then(x -> x.person(0, 0, 0)).then(x -> x.law(1, 1, 0, 99))
                .each(8, (x, f) -> x.fact(0, 0, f < 3 ? 0 : f - 2, 0, 10 + f, 10 + f, 0))
                .each(8, (x, f) -> x.doubt(f, true));
        // the first three in 0, the others in 1 to 5; 0, 1, 2: 6 and 7; 3 and behind it: at most 6 and 6
        Due.answers("six are the least of the greater", six, x -> x.question(0, 50, 50), 3);
        PoorDesk x = later.make();
        Due.is("asked once", x.question(1, 50, 50), 0);
        Due.is("asked on the day of the other fact", x.question(1, 1, 50), 1);
        Due.is("asked again", x.question(1, 50, 50), 0);
        x.doubt(0, false);
        Due.is("0 is sure: 1 is left", x.question(1, 1, 50), 1);
        Due.is("and could it be", x.could(1, 1, 50), 2 + 4);
        x.doubt(1, false);
        Due.is("both are sure", x.could(1, 1, 50), 2);
        Due.is("no question is left", x.question(1, 1, 50), Due.NONE);
    }

    private static void theQuestionOfAWife() {
        World w = World.parishes(4).then(x -> x.person(1, 1, 0)).then(x -> x.person(0, 2, 0))
                .then(x -> x.law(0, 0, 0, 0))
                .then(x -> x.law(1, 1, 0, 99)).then(x -> x.law(3, 0, 0, 99)).then(x -> x.husband(0, 1, 20));
        World both = w.then(x -> x.fact(0, 0, 3, 0, 10, 10, 30)).then(x -> x.fact(0, 1, 0, 0, 12, 12, 40))
                .each(2, (x, f) -> x.doubt(f, true));
        // his: {0} and {2}; hers does not tell
        Due.answers("from the day on: his fact", both, x -> x.question(0, 20, 40), 1);
        // hers: {3} and {1}; his does not tell
        Due.answers("the day ahead: her own", both, x -> x.question(0, 19, 40), 0);
        Due.answers("of the HUSBAND", both, x -> x.question(1, 20, 40), 1);
        Due.answers("of the HUSBAND, the day ahead of the fact: neither tells", both, x -> x.question(1, 11, 40), 0);
        Due.answers("his fact is not KNOWN: neither tells", both, x -> x.question(0, 20, 39), 0);
    }

    private static void orders() {
        World w = SETTLED.then(x -> x.miles(0, 1, 7)).then(x -> x.order(3, 1, 0, 9999));
        int[] due = {3, 1, 0, 9999, 28, 0};
        for (int what = 0; what <= 5; what++) {
            int asked = what;
            Due.answers("what " + what, w, x -> x.ordered(0, asked), due[what]);
        }
        Due.refuses("not to the same one", w, x -> x.order(3, 1, 1, 0), Due.SIZE);
        Due.answers("MILES 0", SETTLED.then(x -> x.order(3, 1, 0, 0)), x -> x.ordered(0, 4), 0);
        Due.answers("MILES 1", SETTLED.then(x -> x.miles(1, 0, 1)).then(x -> x.order(3, 1, 0, 0)),
                x -> x.ordered(0, 4), 4);
        Due.answers("MILES 99", SETTLED.then(x -> x.miles(1, 0, 99)).then(x -> x.order(3, 1, 0, 0)),
                x -> x.ordered(0, 4), 396);
        World later = w.then(x -> x.miles(0, 1, 99)).then(x -> x.order(3, 0, 1, 0));
        Due.answers("the MILES then", later, x -> x.ordered(0, 4), 28);
        Due.answers("the MILES of a later one", later, x -> x.ordered(1, 4), 396);
    }

    private static void appeals() {
        World w = SETTLED.then(x -> x.law(1, 1, 0, 9999)).then(x -> x.fact(0, 0, 1, 0, 50, 50, 120))
                .then(x -> x.order(0, 0, 1, 100)).then(x -> x.order(0, 1, 0, 49));
        Due.answers("KNOWN on the day of the APPEAL", w, x -> x.appeal(0, 120), 0);
        Due.answers("not KNOWN on the day of the APPEAL", w, x -> x.appeal(0, 119), 1);
        Due.answers("not KNOWN on the ORDER's day", w, x -> x.appeal(0, 100), 1);
        Due.answers("on the ORDER's day it was another", w, x -> x.appeal(1, 109), 0);
        Due.refuses("the day ahead", w, x -> x.appeal(0, 99), Due.LATE);
        Due.answers("60 days behind", w, x -> x.appeal(0, 160), 0);
        Due.refuses("61 days behind", w, x -> x.appeal(0, 161), Due.LATE);
        Due.bounds("TERM", w, (x, v) -> x.set(0, v), 0, 999, 60);
        World none = w.then(x -> x.set(0, 0));
        Due.answers("TERM 0", none, x -> x.appeal(0, 100), 1);
        Due.refuses("TERM 0, one day behind", none, x -> x.appeal(0, 101), Due.LATE);
        World most = w.then(x -> x.set(0, 999));
        Due.answers("TERM 999", most, x -> x.appeal(0, 1099), 0);
        Due.refuses("TERM 999, 1000 days behind", most, x -> x.appeal(0, 1100), Due.LATE);
        Due.answers("a DOUBTED fact counts", w.then(x -> x.doubt(0, true)), x -> x.appeal(0, 120), 0);
        World wife = w.then(x -> x.law(3, 0, 0, 99)).then(x -> x.husband(1, 0, 60)).then(x -> x.order(1, 0, 1, 60))
                .then(x -> x.order(1, 1, 0, 60));
        Due.answers("of a WIFE: THE SETTLEMENT, not her own", wife, x -> x.appeal(2, 119), 1);
        Due.answers("of a WIFE: her HUSBAND's", wife, x -> x.appeal(3, 119), 0);
        Due.answers("of a WIFE: her HUSBAND's, KNOWN later", wife, x -> x.appeal(3, 120), 1);
    }

    private static void borne() {
        World w = SETTLED.then(x -> x.miles(0, 1, 7)).then(x -> x.order(0, 1, 0, 10)).then(x -> x.order(0, 0, 1, 10));
        World first = w.then(x -> x.appeal(0, 10));
        World second = w.then(x -> x.appeal(1, 10));
        Due.answers("both STAND: 0", w, x -> x.costs(0), 28);
        Due.answers("both STAND: 1", w, x -> x.costs(1), 28);
        Due.answers("one is CONFIRMED: 0", first, x -> x.costs(0), 28);
        Due.answers("one is CONFIRMED: 1", first, x -> x.costs(1), 28);
        Due.answers("one is QUASHED: 0", second, x -> x.costs(0), 56);
        Due.answers("one is QUASHED: 1", second, x -> x.costs(1), 0);
        Due.answers("a LATE APPEAL: 1", w, x -> x.appeal(1, 9) == Due.LATE ? x.costs(1) : -1, 28);
    }

    private static void lists() {
        World w = FOUR.each(60, (x, week) -> x.price(week, 1));
        Due.answers("on none at first", w, x -> x.relief(0, 59), Due.NONE);
        Due.answers("-1 at first", w, x -> x.list(0, 0, 0), -1);
        Due.bounds("week", w, (x, v) -> x.list(0, 0, v), 0, 59, -1);
        int[] weeks = {0, 1, 30, 58, 59};
        for (int from : weeks) {
            World listed = w.then(x -> x.list(0, 1, from));
            for (int week = 0; week < 60; week++) {
                int asked = week;
                Due.answers("from " + from + " on: " + week, listed,
                        x -> x.relief(0, asked), week < from ? Due.NONE : 3);
                Due.answers("from " + from + " on, the parish: " + week, listed,
                        x -> x.week(1, asked), week < from ? 0 : 3);
            }
        }
        World moved = w.then(x -> x.list(0, 1, 0)).then(x -> x.list(0, 0, 30));
        Due.answers("on one LIST only", moved, x -> x.week(1, 10), 0);
        Due.answers("on none ahead of the new one", moved, x -> x.relief(0, 29), Due.NONE);
        Due.answers("on the new one", moved, x -> x.week(0, 30), 3);
        Due.answers("on none again", moved.then(x -> x.list(0, -1, 30)), x -> x.relief(0, 59), Due.NONE);
    }

    private static void prices() {
        for (int week = 0; week < 60; week++) {
            int asked = week;
            Due.answers("MISSING at first: " + week, World.empty(), x -> x.price(asked, 1), 0);
            World listed = FOUR.then(x -> x.list(0, 0, 0));
            Due.answers("no RELIEF by it: " + week, listed, x -> x.relief(0, asked), Due.MISSING);
            Due.answers("1: " + week, listed.then(x -> x.price(asked, 1)), x -> x.relief(0, asked), 3);
            Due.answers("99: " + week, listed.then(x -> x.price(asked, 99)), x -> x.relief(0, asked), 297);
        }
        Due.beyond("PRICE", World.empty(), (x, v) -> x.price(0, v), -1, 100, Due.LEAST, Due.MOST);
        Due.beyond("week", World.empty(), (x, v) -> x.price(v, 1), -1, 60, Due.LEAST, Due.MOST);
    }

    private static void earned() {
        for (int p = 0; p < 4; p++) {
            int person = p;
            Due.answers("0 at first", FOUR, x -> x.earns(person, 1), 0);
            Due.bounds("EARNS", FOUR, (x, v) -> x.earns(person, v), 0, 999, 0);
            Due.answers("999", FOUR.then(x -> x.earns(person, 999)), x -> x.earns(person, 0), 999);
        }
    }

    /** PERSON 0 and WIFE 1 of it on the LIST of parish 0 from week 5 on, at a PRICE of 10 from week 4 to 6. */
    private static World poor() {
        return FOUR.then(x -> x.husband(1, 0, 0)).then(x -> x.list(0, 0, 5)).then(x -> x.list(1, 0, 5))
                .then(x -> x.price(4, 10)).then(x -> x.price(5, 10)).then(x -> x.price(6, 10));
    }

    private static void relief() {
        Due.answers("3 loaves and 2", poor(), x -> x.relief(0, 5), 50);
        Due.answers("a WIFE", poor(), x -> x.relief(1, 5), 0);
        Due.bounds("SCALE", poor(), (x, v) -> x.set(1, v), 1, 20, 3);
        Due.answers("SCALE 1", poor().then(x -> x.set(1, 1)), x -> x.relief(0, 5), 30);
        Due.answers("SCALE 20", poor().then(x -> x.set(1, 20)), x -> x.relief(0, 5), 220);
        Due.answers("EARNS 49", poor().then(x -> x.earns(0, 49)), x -> x.relief(0, 5), 1);
        Due.answers("EARNS 50", poor().then(x -> x.earns(0, 50)), x -> x.relief(0, 5), 0);
        Due.answers("EARNS 51", poor().then(x -> x.earns(0, 51)), x -> x.relief(0, 5), 0);
        Due.answers("what she EARNS is not looked at", poor().then(x -> x.earns(1, 999)), x -> x.relief(0, 5), 50);
        Due.answers("a WIFE has 0, whatever she EARNS", poor().then(x -> x.earns(1, 999)), x -> x.relief(1, 5), 0);
        World later = poor().then(x -> x.list(1, 0, 6));
        Due.answers("she is on it later", later, x -> x.relief(0, 5), 30);
        Due.answers("she is on it then", later, x -> x.relief(0, 6), 50);
        World ahead = poor().then(x -> x.list(1, 0, 4));
        Due.answers("he is on it later", ahead, x -> x.relief(1, 4), 30);
        Due.answers("he is on it then", ahead, x -> x.relief(1, 5), 0);
        World apart = poor().then(x -> x.list(1, 1, 5));
        Due.answers("on another LIST: he", apart, x -> x.relief(0, 5), 30);
        Due.answers("on another LIST: she", apart, x -> x.relief(1, 5), 30);
        World none = poor().then(x -> x.list(0, -1, 0));
        Due.answers("he is on none", none, x -> x.relief(1, 5), 30);
        World parted = poor().then(x -> x.husband(1, -1, 0));
        Due.answers("no HUSBAND: he", parted, x -> x.relief(0, 5), 30);
        Due.answers("no HUSBAND: she", parted, x -> x.relief(1, 5), 30);
        World child = poor().then(x -> x.father(2, 0)).then(x -> x.list(2, 0, 5));
        Due.answers("a CHILD is no WIFE: he", child, x -> x.relief(0, 5), 50);
        Due.answers("a CHILD is no WIFE: it", child, x -> x.relief(2, 5), 30);
        World first = World.parishes(1).then(x -> x.person(1, 0, 0)).then(x -> x.person(0, 0, 0))
                .then(x -> x.husband(0, 1, 0))
                .each(2, (x, p) -> x.list(p, 0, 0)).then(x -> x.price(0, 10));
        Due.answers("the WIFE is person 0: he", first, x -> x.relief(1, 0), 50);
        Due.answers("the WIFE is person 0: she", first, x -> x.relief(0, 0), 0);
        World two = poor().then(x -> x.person(1, 0, 0)).then(x -> x.husband(4, 1, 0)).then(x -> x.list(4, 0, 5));
        Due.answers("a WIFE of a WIFE: the first", two, x -> x.relief(0, 5), 50);
        Due.answers("a WIFE of a WIFE: she has 0 herself", two, x -> x.relief(1, 5), 0);
        Due.answers("a WIFE of a WIFE: the last", two, x -> x.relief(4, 5), 0);
        Due.answers("a WIFE of a WIFE: two loaves more", two.then(x -> x.list(0, -1, 0)), x -> x.relief(1, 5), 50);
    }

    private static void shares(String what, int[] worth, int pounds, int... due) {
        World w = World.empty().each(worth.length, (x, p) -> x.parish(worth[p]));
        for (int p = 0; p < due.length; p++) {
            int parish = p;
            Due.answers(what + ": " + p, w, x -> x.rate(parish, pounds), due[p]);
        }
    }

    private static void rates() {
        shares("one takes all", new int[] {1}, 10000, 10000);
        shares("no pounds", new int[] {3, 4}, 0, 0, 0);
        shares("one pound, alike: the lower", new int[] {3, 3, 3}, 1, 1, 0, 0);
        shares("two pounds, alike: the lower", new int[] {3, 3, 3}, 2, 1, 1, 0);
        shares("three pounds, alike", new int[] {3, 3, 3}, 3, 1, 1, 1);
        shares("no rest", new int[] {1, 2, 3}, 6, 1, 2, 3);
        // 5 pounds of 6: 0 r 5, 1 r 4, 2 r 3; 2 are left
        shares("the greatest rests", new int[] {1, 2, 3}, 5, 1, 2, 2);
        // 1 pound of 6: r 1, 2, 3
        shares("the greatest rest is the last", new int[] {1, 2, 3}, 1, 0, 0, 1);
        // 4 pounds of 6: 0 r 4, 1 r 2, 2 r 0; 1 is left
        shares("a rest of 0 takes none", new int[] {1, 2, 3}, 4, 1, 1, 2);
        shares("WORTH 0 takes none", new int[] {0, 1, 0, 1}, 3, 0, 2, 0, 1);
        int[] most = {10000, 10000, 10000, 10000, 10000, 10000};
        shares("the most of all", most, 10000, 1667, 1667, 1667, 1667, 1666, 1666);
        shares("one pound of the most", most, 1, 1, 0, 0, 0, 0, 0);
        shares("five pounds of the most", most, 5, 1, 1, 1, 1, 1, 0);
        // 10000 pounds of 10001: 9999 r 1, 0 r 10000; 1 is left
        shares("the least beside the most", new int[] {10000, 1}, 10000, 9999, 1);
        // 9999 pounds of 19999: 4999 r 14999 (10000 x 9999 = 99990000), 4999 r 5000; 1 is left
        shares("close to one another", new int[] {10000, 9999}, 9999, 5000, 4999);
    }
}
