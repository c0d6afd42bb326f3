/** The sentences of promises 8 to 12: facts, laws. */
final class FactLawEdges {
    private static final World FOUR = World.people();
    private static final World FACTS = FOUR.each(24, (x, f) -> x.fact(f % 2, f % 4, f % 2, f, f, f + 9, f));
    private static final World EIGHT = FACTS.each(8, (x, f) -> x.doubt(2 * f, true));
    private static final World LAWS = FOUR.each(12, (x, l) -> x.law(l % 5, l, 10 * l, 10 * l + 5));

    private FactLawEdges() {
    }

    static void tell(Sentences all) {
        all.test(8, "A new fact (kind 0 SERVICE, 1 RENT; pounds of a SERVICE are not looked at), not DOUBTED: "
                + "its number.", FactLawEdges::fact);
        all.test(8, "BEYOND: no such kind, person, parish, pounds (of a RENT), or a day.", FactLawEdges::factBeyond);
        all.test(8, "SIZE: the first day is above the last.", FactLawEdges::factSize);
        all.test(8, "FULL: there are 24.", FactLawEdges::factFull);
        all.test(9, "A fact is DOUBTED, or not: 1 if that is new, else 0.", FactLawEdges::doubt);
        all.test(9, "BEYOND.", FactLawEdges::doubtBeyond);
        all.test(9, "FULL: 8 are.", FactLawEdges::doubtFull);
        all.test(10, "The last fact goes: how many there are.", FactLawEdges::forget);
        all.test(10, "NONE.", FactLawEdges::forgetNone);
        all.test(11, "A new law: its number.", FactLawEdges::law);
        all.test(11, "BEYOND: no such kind, NUMBER, or day.", FactLawEdges::lawBeyond);
        all.test(11, "SIZE: the first day is above the last.", FactLawEdges::lawSize);
        all.test(11, "FULL: there are 12.", FactLawEdges::lawFull);
        all.test(12, "A law ends on a day: its last day so far.", FactLawEdges::ends);
        all.test(12, "BEYOND: no such law, or day.", FactLawEdges::endsBeyond);
        all.test(12, "SIZE: that is ahead of its first day.", FactLawEdges::endsSize);
    }

    private static void fact() {
        PoorDesk x = FOUR.make();
        for (int f = 0; f < 24; f++) {
            Due.is("fact(" + f % 2 + ", ..)", x.fact(f % 2, f % 4, 1, 99, f, f, f), f);
            Due.is("told(2)", x.told(2), f + 1);
        }
        Due.is("none is DOUBTED", x.told(6), 0);
        for (int f = 0; f < 24; f++) {
            Due.is("doubt(" + f + ", false)", x.doubt(f, false), 0);
        }
        int[] pounds = {Due.LEAST, -1, 0, 99, 100, Due.MOST};
        World law = FOUR.then(y -> y.law(1, 3, 0, 9999));
        for (int p : pounds) {
            World w = law.then(y -> y.fact(0, 0, 1, p, 5, 7, 0));
            Due.answers("a SERVICE of " + p + " pounds", w, y -> y.own(0, 7, 0), 1);
        }
        World gone = FOUR.then(y -> y.fact(0, 0, 0, 0, 0, 0, 0)).then(y -> y.doubt(0, true)).then(y -> y.forget());
        Due.answers("in place of a DOUBTED one", gone.then(y -> y.fact(0, 0, 0, 0, 0, 0, 0)), y -> y.told(6), 0);
    }

    private static void factBeyond() {
        Due.bounds("kind", FOUR, (x, v) -> x.fact(v, 0, 0, 0, 0, 0, 0), 0, 1, 0);
        Due.bounds("person", FOUR, (x, v) -> x.fact(0, v, 0, 0, 0, 0, 0), 0, 3, 0);
        Due.bounds("parish", FOUR, (x, v) -> x.fact(0, 0, v, 0, 0, 0, 0), 0, 1, 0);
        Due.bounds("pounds", FOUR, (x, v) -> x.fact(1, 0, 0, v, 0, 0, 0), 0, 99, 0);
        Due.bounds("the first day", FOUR, (x, v) -> x.fact(0, 0, 0, 0, v, 9999, 0), 0, 9999, 0);
        Due.bounds("the last day", FOUR, (x, v) -> x.fact(1, 0, 0, 0, 0, v, 0), 0, 9999, 0);
        Due.bounds("KNOWN since", FOUR, (x, v) -> x.fact(0, 0, 0, 0, 0, 0, v), 0, 9999, 0);
        Due.refuses("no person", World.parishes(1), x -> x.fact(0, 0, 0, 0, 0, 0, 0), Due.BEYOND);
        Due.refuses("no parish", World.empty(), x -> x.fact(0, 0, 0, 0, 0, 0, 0), Due.BEYOND);
        factBeyondWith("with SIZE", FOUR, 2, 1);
        factBeyondWith("with FULL", FACTS, 1, 2);
        factBeyondWith("with SIZE and FULL", FACTS, 2, 1);
    }

    private static void factBeyondWith(String what, World w, int from, int to) {
        Due.beyond(what + ": kind", w, (x, v) -> x.fact(v, 0, 0, 0, from, to, 0), -1, 2);
        Due.beyond(what + ": person", w, (x, v) -> x.fact(0, v, 0, 0, from, to, 0), -1, 4);
        Due.beyond(what + ": parish", w, (x, v) -> x.fact(0, 0, v, 0, from, to, 0), -1, 2);
        Due.beyond(what + ": pounds", w, (x, v) -> x.fact(1, 0, 0, v, from, to, 0), -1, 100);
        Due.beyond(what + ": KNOWN since", w, (x, v) -> x.fact(0, 0, 0, 0, from, to, v), -1, 10000);
        Due.refuses(what + ": first day 10000", w, x -> x.fact(0, 0, 0, 0, 10000, 9999, 0), Due.BEYOND);
        Due.refuses(what + ": last day -1", w, x -> x.fact(0, 0, 0, 0, 0, -1, 0), Due.BEYOND);
    }

    private static void factSize() {
        for (int k = 0; k <= 1; k++) {
            int kind = k;
            Due.answers(k + " on one day", FOUR, x -> x.fact(kind, 0, 0, 0, 5, 5, 0), 0);
            Due.answers(k + " on the first day", FOUR, x -> x.fact(kind, 0, 0, 0, 0, 0, 0), 0);
            Due.answers(k + " on the last day", FOUR, x -> x.fact(kind, 0, 0, 0, 9999, 9999, 0), 0);
            Due.refuses(k + " of 5 to 4", FOUR, x -> x.fact(kind, 0, 0, 0, 5, 4, 0), Due.SIZE);
            Due.refuses(k + " of 1 to 0", FOUR, x -> x.fact(kind, 0, 0, 0, 1, 0, 0), Due.SIZE);
            Due.refuses(k + " of 9999 to 0", FOUR, x -> x.fact(kind, 0, 0, 0, 9999, 0, 0), Due.SIZE);
            Due.refuses("with FULL: " + k + " of 9999 to 9998", FACTS,
                    x -> x.fact(kind, 0, 0, 0, 9999, 9998, 0), Due.SIZE);
        }
        Due.refuses("pounds of a SERVICE are not looked at", FOUR, x -> x.fact(0, 0, 0, 100, 5, 4, 0), Due.SIZE);
    }

    private static void factFull() {
        World less = FACTS.then(x -> x.forget());
        Due.answers("the 24th", less, x -> x.fact(0, 0, 0, 0, 0, 0, 0), 23);
        Due.refuses("the 25th, a SERVICE", FACTS, x -> x.fact(0, 0, 0, 0, 0, 0, 0), Due.FULL);
        Due.refuses("the 25th, a RENT", FACTS, x -> x.fact(1, 3, 1, 99, 9999, 9999, 9999), Due.FULL);
        Due.refuses("pounds of a SERVICE are not looked at", FACTS, x -> x.fact(0, 0, 0, -1, 0, 0, 0), Due.FULL);
        Due.refuses("the 25th where all is full", World.full(), x -> x.fact(0, 0, 0, 0, 0, 0, 0), Due.FULL);
    }

    private static void doubt() {
        PoorDesk x = FACTS.make();
        int[] some = {0, 23, 11};
        for (int f : some) {
            Due.is("not DOUBTED, again", x.doubt(f, false), 0);
            Due.is("DOUBTED, new", x.doubt(f, true), 1);
            Due.is("told(6)", x.told(6), 1);
            Due.is("DOUBTED, again", x.doubt(f, true), 0);
            Due.is("told(6)", x.told(6), 1);
            Due.is("not DOUBTED, new", x.doubt(f, false), 1);
            Due.is("told(6)", x.told(6), 0);
        }
        Due.is("0 is no finding", x.told(5), 0);
        Due.answers("a DOUBTED one when 8 are", EIGHT, y -> y.doubt(14, true), 0);
        Due.answers("one that is not when 8 are", EIGHT, y -> y.doubt(15, false), 0);
        Due.answers("no more when 8 are", EIGHT, y -> y.doubt(0, false), 1);
    }

    private static void doubtBeyond() {
        World three = FOUR.each(3, (x, f) -> x.fact(0, 0, 0, 0, f, f, f));
        Due.bounds("fact, true", three, (x, v) -> x.doubt(v, true), 0, 2, 1);
        Due.bounds("fact, false", three, (x, v) -> x.doubt(v, false), 0, 2, 0);
        Due.bounds("fact of 24", FACTS, (x, v) -> x.doubt(v, true), 0, 23, 1);
        Due.beyond("no fact", FOUR, (x, v) -> x.doubt(v, true), 0, -1);
        Due.beyond("no fact, false", FOUR, (x, v) -> x.doubt(v, false), 0, -1);
        Due.refuses("the one that went", three.then(x -> x.forget()), x -> x.doubt(2, true), Due.BEYOND);
        Due.beyond("with FULL", EIGHT, (x, v) -> x.doubt(v, true), -1, 24);
    }

    private static void doubtFull() {
        World seven = EIGHT.then(x -> x.doubt(14, false));
        Due.answers("the 8th", seven, x -> x.doubt(23, true), 1);
        Due.refuses("the 9th, above them", EIGHT, x -> x.doubt(23, true), Due.FULL);
        Due.refuses("the 9th, among them", EIGHT, x -> x.doubt(1, true), Due.FULL);
        Due.answers("the 9th, one less", EIGHT.then(x -> x.doubt(6, false)), x -> x.doubt(1, true), 1);
        World last = FACTS.each(8, (x, f) -> x.doubt(23 - f, true));
        Due.refuses("the 9th, below them", last, x -> x.doubt(0, true), Due.FULL);
        Due.answers("the 9th, one went", last.then(x -> x.forget()), x -> x.doubt(0, true), 1);
        Due.refuses("the 9th where all is full", World.full(), x -> x.doubt(1, true), Due.FULL);
    }

    private static void forget() {
        PoorDesk x = FACTS.make();
        for (int left = 23; left >= 0; left--) {
            Due.is("forget()", x.forget(), left);
            Due.is("told(2)", x.told(2), left);
        }
        Due.is("told(5)", x.told(5), 0);
        World laws = FOUR.then(y -> y.law(1, 0, 0, 9999));
        World two = laws.then(y -> y.fact(0, 0, 0, 0, 1, 1, 0)).then(y -> y.fact(0, 0, 1, 0, 2, 2, 0));
        Due.answers("the last one counts", two, y -> y.own(0, 9, 9), 1);
        Due.answers("the last one goes", two.then(y -> y.forget()), y -> y.own(0, 9, 9), 0);
        Due.answers("both go", two.then(y -> y.forget()).then(y -> y.forget()), y -> y.told(2), 0);
        World doubted = two.then(y -> y.doubt(1, true));
        Due.answers("a DOUBTED one goes", doubted.then(y -> y.forget()), y -> y.told(6), 0);
        Due.answers("its number is given again", two.then(y -> y.forget()), y -> y.fact(0, 0, 1, 0, 1, 1, 0), 1);
    }

    private static void forgetNone() {
        Due.answers("one fact", FOUR.then(x -> x.fact(0, 0, 0, 0, 0, 0, 0)), x -> x.forget(), 0);
        Due.refuses("no fact", FOUR, x -> x.forget(), Due.NONE);
        Due.refuses("none left", FOUR.then(x -> x.fact(0, 0, 0, 0, 0, 0, 0)).then(x -> x.forget()),
                x -> x.forget(), Due.NONE);
        Due.refuses("nothing at all", World.empty(), x -> x.forget(), Due.NONE);
    }

    private static void law() {
        PoorDesk x = new PoorDesk();
        for (int l = 0; l < 12; l++) {
            Due.is("law(" + l % 5 + ", ..)", x.law(l % 5, 9999, l, 9999), l);
            Due.is("told(3)", x.told(3), l + 1);
        }
        for (int l = 0; l < 12; l++) {
            Due.is("its last day", x.ends(l, l), 9999);
        }
    }

    private static void lawBeyond() {
        World none = World.empty();
        Due.bounds("kind", none, (x, v) -> x.law(v, 0, 0, 0), 0, 4, 0);
        int[] numbered = {1, 2, 4};
        for (int kind : numbered) {
            Due.bounds("NUMBER of " + kind, none, (x, v) -> x.law(kind, v, 0, 0), 0, 9999, 0);
            Due.beyond("with SIZE: NUMBER of " + kind, none, (x, v) -> x.law(kind, v, 1, 0), -1, 10000);
            Due.beyond("with FULL: NUMBER of " + kind, LAWS, (x, v) -> x.law(kind, v, 0, 1), -1, 10000);
        }
        int[] numbers = {Due.LEAST, -1, 10000, Due.MOST};
        for (int number : numbers) {
            Due.answers("BIRTH of NUMBER " + number, none, x -> x.law(0, number, 0, 0), 0);
            Due.answers("MARRIAGE of NUMBER " + number, none, x -> x.law(3, number, 0, 0), 0);
        }
        Due.bounds("the first day", none, (x, v) -> x.law(0, 0, v, 9999), 0, 9999, 0);
        Due.bounds("the last day", none, (x, v) -> x.law(0, 0, 0, v), 0, 9999, 0);
        Due.beyond("with SIZE: kind", none, (x, v) -> x.law(v, 0, 1, 0), -1, 5);
        Due.refuses("with SIZE: first day 10000", none, x -> x.law(0, 0, 10000, 9999), Due.BEYOND);
        Due.refuses("with SIZE: last day -1", none, x -> x.law(0, 0, 0, -1), Due.BEYOND);
        Due.beyond("with FULL: kind", LAWS, (x, v) -> x.law(v, 0, 0, 0), -1, 5);
        Due.refuses("with FULL: first day -1", LAWS, x -> x.law(0, 0, -1, 0), Due.BEYOND);
        Due.refuses("with FULL: last day 10000", LAWS, x -> x.law(0, 0, 0, 10000), Due.BEYOND);
        Due.beyond("with SIZE and FULL: kind", LAWS, (x, v) -> x.law(v, 0, 1, 0), -1, 5);
    }

    private static void lawSize() {
        World none = World.empty();
        for (int k = 0; k <= 4; k++) {
            int kind = k;
            Due.answers(k + " on one day", none, x -> x.law(kind, 0, 5, 5), 0);
            Due.answers(k + " on the first day", none, x -> x.law(kind, 0, 0, 0), 0);
            Due.answers(k + " on the last day", none, x -> x.law(kind, 0, 9999, 9999), 0);
            Due.refuses(k + " of 5 to 4", none, x -> x.law(kind, 0, 5, 4), Due.SIZE);
            Due.refuses(k + " of 9999 to 0", none, x -> x.law(kind, 9999, 9999, 0), Due.SIZE);
            Due.refuses("with FULL: " + k + " of 1 to 0", LAWS, x -> x.law(kind, 0, 1, 0), Due.SIZE);
        }
        Due.refuses("the NUMBER of BIRTH is not looked at", none, x -> x.law(0, 10000, 5, 4), Due.SIZE);
        Due.refuses("the NUMBER of MARRIAGE is not looked at", none, x -> x.law(3, -1, 5, 4), Due.SIZE);
    }

    private static void lawFull() {
        World eleven = World.empty().each(11, (x, l) -> x.law(l % 5, l, l, l));
        for (int k = 0; k <= 4; k++) {
            int kind = k;
            Due.answers("the 12th, of kind " + k, eleven, x -> x.law(kind, 0, 0, 0), 11);
            Due.refuses("the 13th, of kind " + k, LAWS, x -> x.law(kind, 9999, 0, 9999), Due.FULL);
        }
        Due.refuses("the NUMBER of BIRTH is not looked at", LAWS, x -> x.law(0, -1, 0, 0), Due.FULL);
        Due.refuses("the 13th where all is full", World.full(), x -> x.law(0, 0, 0, 0), Due.FULL);
    }

    private static void ends() {
        PoorDesk x = LAWS.make();
        for (int l = 0; l < 12; l++) {
            Due.is("its first last day", x.ends(l, 9999), 10 * l + 5);
            Due.is("later", x.ends(l, 10 * l + 6), 9999);
            Due.is("on its first day", x.ends(l, 10 * l), 10 * l + 6);
            Due.is("the same", x.ends(l, 10 * l), 10 * l);
        }
        World born = FOUR.then(y -> y.law(0, 0, 0, 20));
        Due.answers("it ends on the day of birth", born.then(y -> y.ends(0, 10)), y -> y.own(1, 99, 0), 1);
        Due.answers("it ends the day ahead", born.then(y -> y.ends(0, 9)), y -> y.own(1, 99, 0), Due.NONE);
        World again = born.then(y -> y.ends(0, 9)).then(y -> y.ends(0, 10));
        Due.answers("it ends later again", again, y -> y.own(1, 99, 0), 1);
    }

    private static void endsBeyond() {
        World two = World.empty().then(x -> x.law(0, 0, 0, 7)).then(x -> x.law(4, 3, 0, 8));
        Due.bounds("law", two, (x, v) -> x.ends(v, 9), 0, 1, 7, 8);
        Due.bounds("law of 12", LAWS, (x, v) -> x.ends(v, 9999), 0, 11, 5, 115);
        Due.bounds("day", two, (x, v) -> x.ends(1, v), 0, 9999, 8);
        Due.refuses("no law", World.empty(), x -> x.ends(0, 0), Due.BEYOND);
        Due.refuses("with SIZE: day -1 of a law from 0 on", LAWS, x -> x.ends(0, -1), Due.BEYOND);
        Due.refuses("with SIZE: day -1 of a law from 110 on", LAWS, x -> x.ends(11, -1), Due.BEYOND);
        Due.refuses("with SIZE: the least day", LAWS, x -> x.ends(11, Due.LEAST), Due.BEYOND);
    }

    private static void endsSize() {
        World law = World.empty().then(x -> x.law(1, 5, 100, 200));
        Due.answers("on its first day", law, x -> x.ends(0, 100), 200);
        Due.refuses("the day ahead of it", law, x -> x.ends(0, 99), Due.SIZE);
        Due.refuses("day 0", law, x -> x.ends(0, 0), Due.SIZE);
        World last = World.empty().then(x -> x.law(3, 0, 9999, 9999));
        Due.answers("on the last of all days", last, x -> x.ends(0, 9999), 9999);
        Due.refuses("the day ahead of the last", last, x -> x.ends(0, 9998), Due.SIZE);
        Due.answers("a law from 0 on", World.empty().then(x -> x.law(0, 0, 0, 3)), x -> x.ends(0, 0), 3);
    }
}
