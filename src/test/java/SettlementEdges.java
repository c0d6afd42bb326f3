/** The sentences of promises 13 to 17: settlements. */
final class SettlementEdges {
    private static final World FOUR = World.people();
    private static final World SETTLED = World.settled();
    // A law of each kind on all days: SERVICE of 1 day, RENT of 1 pound, FATHER of 9999 days.
    private static final World LAWFUL = SETTLED.then(x -> x.law(1, 1, 0, 9999)).then(x -> x.law(2, 1, 0, 9999))
            .then(x -> x.law(3, 0, 0, 9999)).then(x -> x.law(4, 9999, 0, 9999));
    // PERSON 0 gains parish 1 on day 20, KNOWN since 30; the fact is DOUBTED.
    private static final World DOUBTED = LAWFUL.then(x -> x.fact(0, 0, 1, 0, 20, 20, 30)).then(x -> x.doubt(0, true));

    /** One of the five calls, which take the same numbers. */
    private interface Asked {
        int of(PoorDesk x, int person, int day, int known);
    }

    private SettlementEdges() {
    }

    static void tell(Sentences all) {
        all.test(13, "ITS OWN SETTLEMENT of a person on a day, by what is KNOWN at another one.", SettlementEdges::own);
        all.test(13, "BEYOND.", () -> beyond((x, p, d, k) -> x.own(p, d, k), 0, 1, Due.NONE));
        all.test(13, "NONE.", SettlementEdges::ownNone);
        all.test(14, "THE SETTLEMENT.", SettlementEdges::settlement);
        all.test(14, "BEYOND.", () -> beyond((x, p, d, k) -> x.settlement(p, d, k), 0, 1, Due.NONE));
        all.test(14, "NONE.", SettlementEdges::settlementNone);
        all.test(15, "The person by whose OWN SETTLEMENT, or lack of it, THE SETTLEMENT is told.",
                SettlementEdges::through);
        all.test(15, "BEYOND.", () -> beyond((x, p, d, k) -> x.through(p, d, k), 0, 3, 0));
        all.test(16, "COULD BE, as a set.", SettlementEdges::could);
        all.test(16, "BEYOND.", () -> beyond((x, p, d, k) -> x.could(p, d, k), 1, 2, 64));
        all.test(17, "THE QUESTION.", SettlementEdges::question);
        all.test(17, "BEYOND.", SettlementEdges::questionBeyond);
        all.test(17, "NONE: no fact is DOUBTED.", SettlementEdges::questionNone);
    }

    /** What the first and the last person have on the day of birth, and the first on day 0, ahead of it. */
    private static void beyond(Asked asked, int first, int last, int ahead) {
        Due.bounds("person", SETTLED, (x, v) -> asked.of(x, v, 10, 0), 0, 3, first, last);
        Due.bounds("day", SETTLED, (x, v) -> asked.of(x, 0, v, 0), 0, 9999, ahead, first);
        Due.bounds("KNOWN", SETTLED, (x, v) -> asked.of(x, 0, 10, v), 0, 9999, first);
        Due.refuses("no person", World.parishes(1), x -> asked.of(x, 0, 0, 0), Due.BEYOND);
        Due.refuses("nothing at all", World.empty(), x -> asked.of(x, 0, 0, 0), Due.BEYOND);
        Due.refuses("person 10 of ten", World.full(), x -> asked.of(x, 10, 0, 0), Due.BEYOND);
        Due.beyond("without a settlement: person", FOUR, (x, v) -> asked.of(x, v, 10, 10), -1, 4);
        Due.beyond("without a settlement: day", FOUR, (x, v) -> asked.of(x, 0, v, 10), -1, 10000);
        Due.beyond("without a settlement: KNOWN", FOUR, (x, v) -> asked.of(x, 0, 10, v), -1, 10000);
    }

    private static void own() {
        World w = LAWFUL.then(x -> x.fact(0, 0, 1, 0, 20, 20, 30));
        Due.answers("on the day, by what is KNOWN later", w, x -> x.own(0, 20, 30), 1);
        Due.answers("on the day, by what is KNOWN then", w, x -> x.own(0, 20, 20), 0);
        Due.answers("on the day, by what is KNOWN the day ahead", w, x -> x.own(0, 20, 29), 0);
        Due.answers("the day ahead, by what is KNOWN at last", w, x -> x.own(0, 19, 9999), 0);
        Due.answers("on the last day, by what is KNOWN at first", w, x -> x.own(0, 9999, 0), 0);
        Due.answers("on the last day, by what is KNOWN at last", w, x -> x.own(0, 9999, 9999), 1);
        Due.answers("DOUBTED", DOUBTED, x -> x.own(0, 20, 30), 1);
        World wife = w.then(x -> x.husband(1, 0, 0)).then(x -> x.father(2, 1));
        Due.answers("a WIFE's own, not her HUSBAND's", wife, x -> x.own(1, 10, 0), 1);
        Due.answers("a CHILD's own, not its FATHER's", wife, x -> x.own(2, 20, 30), 0);
        for (int p = 0; p < 6; p++) {
            int parish = p;
            World six = World.parishes(6).then(x -> x.person(0, parish, 0)).then(x -> x.law(0, 0, 0, 0));
            Due.answers("the parish " + p, six, x -> x.own(0, 0, 0), p);
        }
    }

    private static void ownNone() {
        Due.refuses("no law", FOUR, x -> x.own(0, 9999, 9999), Due.NONE);
        Due.refuses("the day ahead of birth", SETTLED, x -> x.own(0, 9, 9999), Due.NONE);
        Due.answers("the day of birth", SETTLED, x -> x.own(0, 10, 0), 0);
        World rent = FOUR.then(x -> x.law(2, 5, 0, 99)).then(x -> x.fact(1, 0, 1, 5, 20, 40, 30));
        Due.refuses("the day ahead of a RENT", rent, x -> x.own(0, 19, 30), Due.NONE);
        Due.refuses("the day ahead of what is KNOWN", rent, x -> x.own(0, 20, 29), Due.NONE);
        Due.answers("both days", rent, x -> x.own(0, 20, 30), 1);
        Due.refuses("of another person", rent, x -> x.own(1, 9999, 9999), Due.NONE);
        World wife = SETTLED.then(x -> x.person(1, 0, 50)).then(x -> x.law(3, 0, 0, 99)).then(x -> x.husband(4, 0, 0));
        Due.refuses("a WIFE's own, whose HUSBAND has one", wife, x -> x.own(4, 49, 0), Due.NONE);
    }

    private static void settlement() {
        World wife = LAWFUL.then(x -> x.husband(1, 0, 15));
        Due.answers("a PERSON", wife, x -> x.settlement(0, 15, 0), 0);
        Due.answers("a WIFE, ahead of the day", wife, x -> x.settlement(1, 14, 0), 1);
        Due.answers("a WIFE, from the day on", wife, x -> x.settlement(1, 15, 0), 0);
        Due.answers("a CHILD by a WIFE by her HUSBAND", wife.then(x -> x.father(2, 1)), x -> x.settlement(2, 15, 0), 0);
        Due.answers("a CHILD by a WIFE", wife.then(x -> x.father(2, 1)), x -> x.settlement(2, 14, 0), 1);
        Due.answers("a FOUNDLING", wife, x -> x.settlement(3, 15, 0), 1);
        Due.answers("DOUBTED facts are counted", DOUBTED, x -> x.settlement(0, 20, 30), 1);
        World doubted = DOUBTED.then(x -> x.husband(1, 0, 0));
        Due.answers("those of the HUSBAND, KNOWN", doubted, x -> x.settlement(1, 20, 30), 1);
        Due.answers("those of the HUSBAND, not KNOWN", doubted, x -> x.settlement(1, 20, 29), 0);
    }

    private static void settlementNone() {
        Due.refuses("no law", FOUR, x -> x.settlement(0, 9999, 9999), Due.NONE);
        Due.refuses("the day ahead of birth", SETTLED, x -> x.settlement(3, 9, 9999), Due.NONE);
        World lack = FOUR.then(x -> x.law(3, 0, 0, 99)).then(x -> x.law(4, 99, 0, 99))
                .then(x -> x.husband(1, 0, 0)).then(x -> x.father(2, 1));
        Due.refuses("neither she nor her HUSBAND has one", lack, x -> x.settlement(1, 50, 50), Due.NONE);
        Due.refuses("nobody by whom it goes has one", lack, x -> x.settlement(2, 50, 50), Due.NONE);
        World one = lack.then(x -> x.law(1, 1, 0, 99)).then(x -> x.fact(0, 0, 1, 0, 50, 50, 60));
        Due.refuses("the day ahead of his", one, x -> x.settlement(2, 49, 60), Due.NONE);
        Due.refuses("his is not KNOWN", one, x -> x.settlement(2, 50, 59), Due.NONE);
        Due.answers("his", one, x -> x.settlement(2, 50, 60), 1);
    }

    private static void through() {
        World lack = FOUR.then(x -> x.law(3, 0, 20, 30)).then(x -> x.law(4, 99, 0, 99))
                .then(x -> x.husband(1, 0, 20)).then(x -> x.father(2, 1));
        for (int p = 0; p < 4; p++) {
            int person = p;
            Due.answers("by its own lack: " + p, lack, x -> x.through(person, 50, 0), p);
        }
        World born = lack.then(x -> x.law(0, 0, 0, 99));
        int[] due = {0, 0, 0, 3};
        int[] ahead = {0, 1, 1, 3};
        for (int p = 0; p < 4; p++) {
            int person = p;
            Due.answers("married: " + p, born, x -> x.through(person, 20, 0), due[p]);
            Due.answers("ahead of the marriage: " + p, born, x -> x.through(person, 19, 0), ahead[p]);
            Due.answers("ahead of birth: " + p, born, x -> x.through(person, 9, 0), p);
        }
        World ten = World.parishes(2).each(10, (x, p) -> x.person(p == 9 ? 0 : 1, 0, 0))
                .each(9, (x, p) -> x.husband(p, p + 1, 0)).then(x -> x.law(3, 0, 0, 0)).then(x -> x.law(1, 1, 0, 99));
        Due.answers("nobody of ten has one", ten, x -> x.through(0, 50, 50), 0);
        for (int p = 0; p < 10; p++) {
            int person = p;
            World one = ten.then(x -> x.fact(0, person, 1, 0, 50, 50, 50));
            Due.answers("of ten only " + p + " has one", one, x -> x.through(0, 50, 50), p);
            Due.answers("it is not gained yet by " + p, one, x -> x.through(0, 49, 50), 0);
            Due.answers("it is not KNOWN yet of " + p, one, x -> x.through(0, 50, 49), 0);
        }
    }

    private static void could() {
        Due.answers("none", FOUR, x -> x.could(0, 50, 50), 64);
        Due.answers("one", SETTLED, x -> x.could(1, 50, 50), 2);
        Due.answers("one or the other", DOUBTED, x -> x.could(0, 20, 30), 3);
        Due.answers("the day ahead", DOUBTED, x -> x.could(0, 19, 30), 1);
        Due.answers("not KNOWN", DOUBTED, x -> x.could(0, 20, 29), 1);
        World eight = World.parishes(6).then(x -> x.person(0, 0, 0)).then(x -> x.law(1, 1, 0, 99))
                .each(8, (x, f) -> x.fact(0, 0, f % 6, 0, f, f, 0)).each(8, (x, f) -> x.doubt(f, true));
        Due.answers("all six and none", eight, x -> x.could(0, 50, 50), 127);
        Due.answers("all six", eight.then(x -> x.law(0, 0, 0, 0)), x -> x.could(0, 50, 50), 63);
        Due.answers("a later one is sure", eight.then(x -> x.fact(0, 0, 5, 0, 9, 9, 0)), x -> x.could(0, 50, 50), 32);
        Due.answers("where all is full", World.full(), x -> x.could(6, 9999, 9999), 1);
    }

    private static void question() {
        Due.answers("the only DOUBTED fact", DOUBTED, x -> x.question(0, 20, 30), 0);
        Due.answers("of another person", DOUBTED, x -> x.question(3, 20, 30), 0);
        Due.answers("it is not KNOWN", DOUBTED, x -> x.question(0, 20, 0), 0);
        World last = LAWFUL.each(24, (x, f) -> x.fact(0, 0, 1, 0, f, f, 0)).then(x -> x.doubt(23, true));
        Due.answers("the last fact of 24", last, x -> x.question(0, 50, 50), 23);
        World three = World.parishes(4).then(x -> x.person(0, 0, 0)).then(x -> x.law(0, 0, 0, 0))
                .then(x -> x.law(1, 1, 0, 99)).each(3, (x, f) -> x.fact(0, 0, f + 1, 0, f + 1, f + 1, f))
                .each(3, (x, f) -> x.doubt(f, true));
        // on day 3: 0 {1,2,3} and {0,2,3}; 1 {2,3} and {0,1,3}; 2 {3} and {0,1,2}: each 3
        Due.answers("all alike: the least", three, x -> x.question(0, 3, 9), 0);
        // on day 2: 0 {1,2} and {0,2}; 1 {2} and {0,1}; 2 is ahead: {0,1,2} and {0,1,2}
        Due.answers("of two the least", three, x -> x.question(0, 2, 9), 0);
        // on day 1: 0 {1} and {0}; the others {0,1}
        Due.answers("the one that tells", three, x -> x.question(0, 1, 9), 0);
        // 1 is sure: 0 {2,3} and {2,3}; 2 {3} and {2}
        Due.answers("the later one tells", three.then(x -> x.doubt(1, false)), x -> x.question(0, 3, 9), 2);
    }

    private static void questionBeyond() {
        beyondOfQuestion("person", (x, v) -> x.question(v, 20, 30), 3);
        beyondOfQuestion("day", (x, v) -> x.question(0, v, 30), 9999);
        beyondOfQuestion("KNOWN", (x, v) -> x.question(0, 20, v), 9999);
        Due.refuses("no person, with NONE", World.parishes(1), x -> x.question(0, 0, 0), Due.BEYOND);
        Due.refuses("nothing at all, with NONE", World.empty(), x -> x.question(0, 0, 0), Due.BEYOND);
        Due.refuses("person 10 of ten", World.full(), x -> x.question(10, 0, 0), Due.BEYOND);
    }

    private static void beyondOfQuestion(String what, World.Call call, int most) {
        Due.bounds(what, DOUBTED, call, 0, most, 0);
        Due.beyond("with NONE: " + what, SETTLED, call, -1, most + 1, Due.LEAST, Due.MOST);
    }

    private static void questionNone() {
        Due.refuses("no fact", SETTLED, x -> x.question(0, 20, 30), Due.NONE);
        Due.refuses("a fact", LAWFUL.then(x -> x.fact(0, 0, 1, 0, 20, 20, 30)), x -> x.question(0, 20, 30), Due.NONE);
        Due.refuses("not DOUBTED again", DOUBTED.then(x -> x.doubt(0, false)), x -> x.question(0, 20, 30), Due.NONE);
        Due.refuses("the DOUBTED one went", DOUBTED.then(x -> x.forget()), x -> x.question(0, 20, 30), Due.NONE);
        World anew = DOUBTED.then(x -> x.forget()).then(x -> x.fact(0, 0, 1, 0, 20, 20, 30));
        Due.refuses("another one in its place", anew, x -> x.question(0, 20, 30), Due.NONE);
        World many = LAWFUL.each(24, (x, f) -> x.fact(0, 0, 1, 0, f, f, 0));
        Due.refuses("24 facts", many, x -> x.question(0, 20, 30), Due.NONE);
        Due.answers("one of 24", many.then(x -> x.doubt(7, true)), x -> x.question(0, 20, 30), 7);
    }
}
