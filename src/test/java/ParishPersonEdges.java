/** The sentences of promises 1 to 7: a new object, parishes, persons. */
final class ParishPersonEdges {
    private static final World FOUR = World.people();
    private static final World SIX = World.parishes(6);
    private static final World TEN = World.parishes(2).each(10, (x, p) -> x.person(p % 4, 1, p));
    // 1 WIFE of 2, 2 CHILD of 3, 3 WIFE of 0; 4 WIFE, 5 CHILD by nobody; 6 FOUNDLING.
    private static final World LINE = World.parishes(1)
            .then(x -> x.person(0, 0, 0)).then(x -> x.person(1, 0, 0)).then(x -> x.person(2, 0, 0))
            .then(x -> x.person(1, 0, 0)).then(x -> x.person(1, 0, 0)).then(x -> x.person(2, 0, 0))
            .then(x -> x.person(3, 0, 0))
            .then(x -> x.husband(1, 2, 5)).then(x -> x.father(2, 3)).then(x -> x.husband(3, 0, 6));

    private ParishPersonEdges() {
    }

    static void tell(Sentences all) {
        all.test(1, "No parishes, persons, facts, laws, orders; TERM 60, SCALE 3, prices and sheets MISSING.",
                ParishPersonEdges::newObject);
        all.test(2, "A new parish: its number.", ParishPersonEdges::parish);
        all.test(2, "BEYOND.", ParishPersonEdges::parishBeyond);
        all.test(2, "FULL: there are 6.", ParishPersonEdges::parishFull);
        all.test(3, "MILES between two parishes become v: what they were.", ParishPersonEdges::miles);
        all.test(3, "BEYOND: no such parish (either), or v.", ParishPersonEdges::milesBeyond);
        all.test(3, "SIZE: they are one.", ParishPersonEdges::milesSize);
        all.test(4, "A new person: its number.", ParishPersonEdges::person);
        all.test(4, "BEYOND: no such kind, parish, or day.", ParishPersonEdges::personBeyond);
        all.test(4, "FULL: there are 10.", ParishPersonEdges::personFull);
        all.test(5, "A person as one of a kind: its number.", ParishPersonEdges::as);
        all.test(5, "BEYOND: no such person, or kind.", ParishPersonEdges::asBeyond);
        all.test(5, "KIND: it is not of that kind, nor of one under it.", ParishPersonEdges::asKind);
        all.test(6, "A WIFE has a HUSBAND from a day on (-1: none, the day not looked at): "
                + "who it was (-1: none, no finding).", ParishPersonEdges::husband);
        all.test(6, "BEYOND: no such person (either), or day.", ParishPersonEdges::husbandBeyond);
        all.test(6, "KIND: the first is no WIFE.", ParishPersonEdges::husbandKind);
        all.test(6, "RING: they would go round (herself, too).", ParishPersonEdges::husbandRing);
        all.test(7, "A CHILD has a FATHER (-1: none): who it was (-1: none, no finding).", ParishPersonEdges::father);
        all.test(7, "BEYOND (either).", ParishPersonEdges::fatherBeyond);
        all.test(7, "KIND: it is no CHILD, or a FOUNDLING.", ParishPersonEdges::fatherKind);
        all.test(7, "RING.", ParishPersonEdges::fatherRing);
    }

    private static void newObject() {
        World none = World.empty();
        for (int what = 0; what <= 6; what++) {
            int asked = what;
            Due.answers("told(" + what + ")", none, x -> x.told(asked), 0);
        }
        Due.refuses("no parishes: costs(0)", none, x -> x.costs(0), Due.BEYOND);
        Due.refuses("no persons: as(0, 0)", none, x -> x.as(0, 0), Due.BEYOND);
        Due.refuses("no facts: doubt(0, false)", none, x -> x.doubt(0, false), Due.BEYOND);
        Due.refuses("no facts: forget()", none, x -> x.forget(), Due.NONE);
        Due.refuses("no laws: ends(0, 0)", none, x -> x.ends(0, 0), Due.BEYOND);
        Due.refuses("no orders: ordered(0, 0)", none, x -> x.ordered(0, 0), Due.BEYOND);
        Due.refuses("nothing is kept: back()", none, x -> x.back(), Due.NONE);
        Due.answers("TERM", none, x -> x.set(0, 0), 60);
        Due.answers("SCALE", none, x -> x.set(1, 1), 3);
        for (int week = 0; week < 60; week++) {
            int asked = week;
            Due.answers("price(" + week + ", 5)", none, x -> x.price(asked, 5), 0);
        }
        for (int s = 0; s < 4; s++) {
            int asked = s;
            Due.refuses("read(" + s + ")", none, x -> x.read(asked), Due.MISSING);
        }
        World.full().make();
        Due.answers("another one is new, too", none, x -> x.parish(0), 0);
    }

    private static void parish() {
        PoorDesk x = new PoorDesk();
        for (int p = 0; p < 6; p++) {
            Due.is("parish(" + p + ")", x.parish(p), p);
            Due.is("told(0)", x.told(0), p + 1);
            Due.is("costs(" + p + ")", x.costs(p), 0);
        }
        for (int p = 0; p < 6; p++) {
            Due.is("rate(" + p + ", 15) by its WORTH", x.rate(p, 15), p);
        }
    }

    private static void parishBeyond() {
        Due.bounds("WORTH", World.empty(), (x, v) -> x.parish(v), 0, 10000, 0);
        Due.bounds("WORTH of the last", World.parishes(5), (x, v) -> x.parish(v), 0, 10000, 5);
        Due.beyond("with FULL: WORTH", SIX, (x, v) -> x.parish(v), -1, 10001);
    }

    private static void parishFull() {
        Due.answers("the 6th", World.parishes(5), x -> x.parish(3), 5);
        Due.refuses("the 7th, of WORTH 0", SIX, x -> x.parish(0), Due.FULL);
        Due.refuses("the 7th, of WORTH 10000", SIX, x -> x.parish(10000), Due.FULL);
        Due.refuses("the 7th where all is full", World.full(), x -> x.parish(1), Due.FULL);
    }

    private static void miles() {
        for (int a = 0; a < 6; a++) {
            for (int b = 0; b < 6; b++) {
                if (a != b) {
                    milesOf(a, b);
                }
            }
        }
    }

    private static void milesOf(int a, int b) {
        PoorDesk x = SIX.make();
        Due.is("at first", x.miles(a, b, 99), 0);
        Due.is("the same way", x.miles(a, b, 0), 99);
        Due.is("0 is a number", x.miles(a, b, 98), 0);
        Due.is("the other way", x.miles(b, a, 5), 98);
        for (int i = 0; i < 36; i++) {
            int c = i / 6;
            int d = i % 6;
            if (c != d) {
                boolean same = c == a && d == b || c == b && d == a;
                Due.is("miles(" + c + ", " + d + ", ..) behind " + a + ", " + b, x.miles(c, d, same ? 5 : 0), same ? 5 : 0);
            }
        }
    }

    private static void milesBeyond() {
        World w = World.parishes(3).then(x -> x.miles(0, 2, 40));
        Due.beyond("the first", w, (x, a) -> x.miles(a, 0, 1), -1, 3, Due.LEAST, Due.MOST);
        Due.beyond("the second", w, (x, b) -> x.miles(0, b, 1), -1, 3, Due.LEAST, Due.MOST);
        Due.answers("the first and the last parish", w, x -> x.miles(2, 0, 1), 40);
        Due.bounds("v", w, (x, v) -> x.miles(0, 2, v), 0, 99, 40);
        Due.refuses("no parish", World.empty(), x -> x.miles(0, 1, 0), Due.BEYOND);
        Due.refuses("one parish", World.parishes(1), x -> x.miles(0, 1, 0), Due.BEYOND);
        Due.refuses("parish 6 of six", SIX, x -> x.miles(0, 6, 0), Due.BEYOND);
        Due.refuses("with SIZE: no parish, both are 0", World.empty(), x -> x.miles(0, 0, 0), Due.BEYOND);
        Due.refuses("with SIZE: both are the first that is none", w, x -> x.miles(3, 3, 0), Due.BEYOND);
        Due.refuses("with SIZE: both are -1", w, x -> x.miles(-1, -1, 0), Due.BEYOND);
        Due.refuses("with SIZE: v is 100", w, x -> x.miles(1, 1, 100), Due.BEYOND);
        Due.refuses("with SIZE: v is -1", w, x -> x.miles(1, 1, -1), Due.BEYOND);
    }

    private static void milesSize() {
        for (int p = 0; p < 6; p++) {
            int one = p;
            Due.refuses("miles(" + p + ", " + p + ", 0)", SIX, x -> x.miles(one, one, 0), Due.SIZE);
            Due.refuses("miles(" + p + ", " + p + ", 99)", SIX, x -> x.miles(one, one, 99), Due.SIZE);
        }
        Due.refuses("the only parish", World.parishes(1), x -> x.miles(0, 0, 1), Due.SIZE);
    }

    private static void person() {
        PoorDesk x = World.parishes(2).make();
        for (int p = 0; p < 10; p++) {
            Due.is("person(" + p % 4 + ", ..)", x.person(p % 4, p % 2, p), p);
            Due.is("told(1)", x.told(1), p + 1);
            Due.is("its kind", x.as(p, p % 4), p);
            Due.is("on no LIST", x.list(p, -1, 0), -1);
            Due.is("EARNS", x.earns(p, 1), 0);
        }
        x.law(0, 0, 0, 9999);
        for (int p = 0; p < 10; p++) {
            Due.is("own on its day of birth", x.own(p, p, 0), p % 2);
        }
    }

    private static void personBeyond() {
        World w = World.parishes(3);
        Due.bounds("kind", w, (x, v) -> x.person(v, 0, 0), 0, 3, 0);
        Due.bounds("parish", w, (x, v) -> x.person(0, v, 0), 0, 2, 0);
        Due.bounds("parish of six", SIX, (x, v) -> x.person(0, v, 0), 0, 5, 0);
        Due.bounds("day", w, (x, v) -> x.person(0, 0, v), 0, 9999, 0);
        Due.refuses("no parish", World.empty(), x -> x.person(0, 0, 0), Due.BEYOND);
        Due.refuses("with FULL: kind 4", TEN, x -> x.person(4, 0, 0), Due.BEYOND);
        Due.refuses("with FULL: kind -1", TEN, x -> x.person(-1, 0, 0), Due.BEYOND);
        Due.refuses("with FULL: parish 2", TEN, x -> x.person(0, 2, 0), Due.BEYOND);
        Due.refuses("with FULL: parish -1", TEN, x -> x.person(0, -1, 0), Due.BEYOND);
        Due.refuses("with FULL: day 10000", TEN, x -> x.person(0, 0, 10000), Due.BEYOND);
        Due.refuses("with FULL: day -1", TEN, x -> x.person(0, 0, -1), Due.BEYOND);
    }

    private static void personFull() {
        World nine = World.parishes(2).each(9, (x, p) -> x.person(p % 4, 1, p));
        for (int kind = 0; kind < 4; kind++) {
            int asked = kind;
            Due.answers("the 10th, of kind " + kind, nine, x -> x.person(asked, 0, 0), 9);
            Due.refuses("the 11th, of kind " + kind, TEN, x -> x.person(asked, 1, 9999), Due.FULL);
        }
        Due.refuses("the 11th where all is full", World.full(), x -> x.person(0, 0, 0), Due.FULL);
    }

    private static void as() {
        for (int p = 0; p < 4; p++) {
            int asked = p;
            Due.answers(p + " as itself", FOUR, x -> x.as(asked, asked), p);
            Due.answers(p + " as a PERSON", FOUR, x -> x.as(asked, 0), p);
        }
        Due.answers("a FOUNDLING as a CHILD", FOUR, x -> x.as(3, 2), 3);
        Due.answers("the last of ten", TEN, x -> x.as(9, 1), 9);
    }

    private static void asBeyond() {
        Due.bounds("person", FOUR, (x, v) -> x.as(v, 0), 0, 3, 0, 3);
        Due.bounds("person of ten", TEN, (x, v) -> x.as(v, 0), 0, 9, 0, 9);
        Due.bounds("kind", FOUR, (x, v) -> x.as(3, v), 0, 3, 3);
        Due.refuses("no person", World.parishes(1), x -> x.as(0, 0), Due.BEYOND);
        Due.beyond("with KIND: of a PERSON", FOUR, (x, v) -> x.as(0, v), -1, 4);
        Due.beyond("with KIND: no such person as a WIFE", FOUR, (x, v) -> x.as(v, 1), -1, 4);
    }

    private static void asKind() {
        int[][] not = {{0, 1}, {0, 2}, {0, 3}, {1, 2}, {1, 3}, {2, 1}, {2, 3}, {3, 1}};
        for (int[] n : not) {
            Due.refuses(n[0] + " as " + n[1], FOUR, x -> x.as(n[0], n[1]), Due.KIND);
        }
    }

    private static void husband() {
        PoorDesk x = FOUR.make();
        Due.is("none at first", x.husband(1, 0, 0), -1);
        Due.is("another one", x.husband(1, 2, 9999), 0);
        Due.is("the same one", x.husband(1, 2, 0), 2);
        Due.is("a FOUNDLING", x.husband(1, 3, 0), 2);
        int[] days = {-1, 0, 9999, 10000, Due.LEAST, Due.MOST};
        for (int day : days) {
            x.husband(1, 3, 0);
            Due.is("none, the day is " + day, x.husband(1, -1, day), 3);
            Due.is("none again, the day is " + day, x.husband(1, -1, day), -1);
        }
        Due.is("none is no finding", x.told(5), 0);
        World married = World.settled().then(y -> y.law(3, 0, 0, 9999)).then(y -> y.husband(1, 0, 20));
        Due.answers("ahead of the day", married, y -> y.through(1, 19, 0), 1);
        Due.answers("from the day on", married, y -> y.through(1, 20, 0), 0);
        Due.answers("long behind it", married, y -> y.through(1, 9999, 0), 0);
        Due.answers("another day", married.then(y -> y.husband(1, 0, 18)), y -> y.through(1, 18, 0), 0);
        Due.answers("none", married.then(y -> y.husband(1, -1, 18)), y -> y.through(1, 9999, 0), 1);
    }

    private static void husbandBeyond() {
        World w = FOUR.then(x -> x.husband(1, 2, 7));
        Due.beyond("the wife", w, (x, v) -> x.husband(v, 0, 0), -1, 4, Due.LEAST, Due.MOST);
        Due.beyond("the wife of none", w, (x, v) -> x.husband(v, -1, 0), -1, 4, Due.LEAST, Due.MOST);
        Due.beyond("the husband", w, (x, v) -> x.husband(1, v, 0), -2, 4, Due.LEAST, Due.MOST);
        Due.answers("the first person", w, x -> x.husband(1, 0, 0), 2);
        Due.answers("the last person", w, x -> x.husband(1, 3, 0), 2);
        Due.bounds("day", w, (x, v) -> x.husband(1, 0, v), 0, 9999, 2);
        Due.refuses("no person", World.parishes(1), x -> x.husband(0, -1, 0), Due.BEYOND);
        Due.refuses("person 10 of ten", TEN, x -> x.husband(9, 10, 0), Due.BEYOND);
        Due.refuses("with KIND: no such husband", w, x -> x.husband(0, 4, 0), Due.BEYOND);
        Due.refuses("with KIND: no such day", w, x -> x.husband(0, 3, 10000), Due.BEYOND);
        Due.refuses("with KIND: day -1", w, x -> x.husband(2, 3, -1), Due.BEYOND);
        Due.refuses("with RING: day 10000", w, x -> x.husband(1, 1, 10000), Due.BEYOND);
        Due.refuses("with RING: day -1", w, x -> x.husband(1, 1, -1), Due.BEYOND);
        Due.refuses("with RING: the first that is none", w, x -> x.husband(4, 4, 0), Due.BEYOND);
        Due.refuses("with KIND and RING: day 10000", w, x -> x.husband(0, 0, 10000), Due.BEYOND);
    }

    private static void husbandKind() {
        int[] noWife = {0, 2, 3};
        for (int p : noWife) {
            Due.refuses(p + " has 1", FOUR, x -> x.husband(p, 1, 0), Due.KIND);
            Due.refuses(p + " has none", FOUR, x -> x.husband(p, -1, 0), Due.KIND);
            Due.refuses(p + " has none, the day is not looked at", FOUR, x -> x.husband(p, -1, 10000), Due.KIND);
            Due.refuses("with RING: " + p + " has itself", FOUR, x -> x.husband(p, p, 0), Due.KIND);
        }
        Due.refuses("a CHILD with a FATHER", FOUR.then(x -> x.father(2, 0)), x -> x.husband(2, -1, 0), Due.KIND);
        Due.refuses("with RING: a CHILD whose WIFE goes by it", LINE, x -> x.husband(2, 1, 0), Due.KIND);
    }

    private static void husbandRing() {
        Due.refuses("herself", FOUR, x -> x.husband(1, 1, 0), Due.RING);
        Due.refuses("herself, who has one", FOUR.then(x -> x.husband(1, 0, 3)), x -> x.husband(1, 1, 9), Due.RING);
        Due.refuses("one whose HUSBAND she is", LINE.then(x -> x.husband(4, 3, 0)), x -> x.husband(3, 4, 0), Due.RING);
        Due.refuses("one whose FATHER she is", LINE, x -> x.husband(3, 2, 0), Due.RING);
        Due.refuses("round by two", LINE, x -> x.husband(3, 1, 0), Due.RING);
        Due.answers("one ahead of him in the line", LINE, x -> x.husband(1, 3, 0), 2);
        Due.answers("the end of the line", LINE, x -> x.husband(1, 0, 0), 2);
        Due.answers("the start of a line", LINE, x -> x.husband(4, 1, 0), -1);
        Due.answers("none", LINE, x -> x.husband(3, -1, 0), 0);
        World ten = World.parishes(1).each(10, (x, p) -> x.person(1, 0, 0)).each(9, (x, p) -> x.husband(p, p + 1, p));
        for (int p = 0; p < 10; p++) {
            int other = p;
            Due.refuses("the last of ten has " + p, ten, x -> x.husband(9, other, 0), Due.RING);
        }
        World cut = ten.then(x -> x.husband(4, -1, 0));
        Due.answers("a line that is cut", cut, x -> x.husband(9, 0, 0), -1);
        Due.refuses("behind the cut", cut, x -> x.husband(9, 5, 0), Due.RING);
    }

    private static void father() {
        PoorDesk x = FOUR.make();
        Due.is("none at first", x.father(2, -1), -1);
        Due.is("none still", x.father(2, 0), -1);
        Due.is("a WIFE", x.father(2, 1), 0);
        Due.is("a FOUNDLING", x.father(2, 3), 1);
        Due.is("the same one", x.father(2, 3), 3);
        Due.is("none", x.father(2, -1), 3);
        Due.is("none again", x.father(2, -1), -1);
        Due.is("none is no finding", x.told(5), 0);
    }

    private static void fatherBeyond() {
        World w = FOUR.then(x -> x.father(2, 1));
        Due.beyond("the child", w, (x, v) -> x.father(v, 0), -1, 4, Due.LEAST, Due.MOST);
        Due.beyond("the child of none", w, (x, v) -> x.father(v, -1), -1, 4, Due.LEAST, Due.MOST);
        Due.beyond("the father", w, (x, v) -> x.father(2, v), -2, 4, Due.LEAST, Due.MOST);
        Due.answers("the first person", w, x -> x.father(2, 0), 1);
        Due.answers("the last person", w, x -> x.father(2, 3), 1);
        Due.refuses("no person", World.parishes(1), x -> x.father(0, -1), Due.BEYOND);
        Due.refuses("person 10 of ten", TEN, x -> x.father(6, 10), Due.BEYOND);
        Due.refuses("with KIND: of a PERSON", w, x -> x.father(0, 4), Due.BEYOND);
        Due.refuses("with KIND: of a WIFE", w, x -> x.father(1, -2), Due.BEYOND);
        Due.refuses("with KIND: of a FOUNDLING", w, x -> x.father(3, 4), Due.BEYOND);
        Due.refuses("with RING: the first that is none", w, x -> x.father(4, 4), Due.BEYOND);
    }

    private static void fatherKind() {
        int[] noChild = {0, 1, 3};
        for (int p : noChild) {
            Due.refuses(p + " has 2", FOUR, x -> x.father(p, 2), Due.KIND);
            Due.refuses(p + " has none", FOUR, x -> x.father(p, -1), Due.KIND);
            Due.refuses("with RING: " + p + " has itself", FOUR, x -> x.father(p, p), Due.KIND);
        }
        Due.refuses("a WIFE with a HUSBAND", LINE, x -> x.father(3, -1), Due.KIND);
        Due.refuses("with RING: a WIFE by whom it goes", LINE, x -> x.father(3, 2), Due.KIND);
        Due.refuses("with RING: a FOUNDLING", LINE.then(x -> x.father(5, 6)), x -> x.father(6, 5), Due.KIND);
    }

    private static void fatherRing() {
        Due.refuses("itself", FOUR, x -> x.father(2, 2), Due.RING);
        Due.refuses("itself, who has one", FOUR.then(x -> x.father(2, 0)), x -> x.father(2, 2), Due.RING);
        Due.refuses("one whose FATHER it is", LINE.then(x -> x.father(5, 2)), x -> x.father(2, 5), Due.RING);
        Due.refuses("one whose HUSBAND it is", LINE, x -> x.father(2, 1), Due.RING);
        Due.answers("the end of its line", LINE, x -> x.father(2, 0), 3);
        Due.answers("the start of a line", LINE, x -> x.father(5, 1), -1);
        World ten = World.parishes(1).each(10, (x, p) -> x.person(2, 0, 0)).each(9, (x, p) -> x.father(p, p + 1));
        for (int p = 0; p < 10; p++) {
            int other = p;
            Due.refuses("the last of ten has " + p, ten, x -> x.father(9, other), Due.RING);
        }
        World cut = ten.then(x -> x.father(0, -1));
        Due.answers("a line that is cut", cut, x -> x.father(9, 0), -1);
        Due.refuses("behind the cut", cut, x -> x.father(9, 1), Due.RING);
    }
}
