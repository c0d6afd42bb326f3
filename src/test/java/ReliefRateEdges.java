/** The sentences of promises 23 to 28: relief, rates. */
final class ReliefRateEdges {
    private static final World FOUR = World.people();
    // PERSON 0 is on the LIST of parish 0 from week 5 on; bread is 10 in weeks 4 and 5.
    private static final World POOR = FOUR.then(x -> x.list(0, 0, 5)).then(x -> x.price(4, 10))
            .then(x -> x.price(5, 10));

    private ReliefRateEdges() {
    }

    static void tell(Sentences all) {
        all.test(23, "A person is on the LIST of a parish from a week on (-1: on none, the week not looked at): "
                + "on which it was (-1: none, no finding).", ReliefRateEdges::list);
        all.test(23, "BEYOND: no such person, parish, or week.", ReliefRateEdges::listBeyond);
        all.test(24, "EARNS of a person becomes v: what it was.", ReliefRateEdges::earns);
        all.test(24, "BEYOND.", ReliefRateEdges::earnsBeyond);
        all.test(25, "PRICE in a week becomes v (0: MISSING): what it was (0).", ReliefRateEdges::price);
        all.test(25, "BEYOND.", ReliefRateEdges::priceBeyond);
        all.test(26, "RELIEF of a person in a week.", ReliefRateEdges::relief);
        all.test(26, "BEYOND.", ReliefRateEdges::reliefBeyond);
        all.test(26, "NONE: it is on no LIST then.", ReliefRateEdges::reliefNone);
        all.test(26, "MISSING: the PRICE is.", ReliefRateEdges::reliefMissing);
        all.test(27, "RELIEF of all on the LIST of a parish in a week (0 with none).", ReliefRateEdges::week);
        all.test(27, "BEYOND.", ReliefRateEdges::weekBeyond);
        all.test(27, "MISSING: the PRICE is.", ReliefRateEdges::weekMissing);
        all.test(28, "What a parish gives of a RATE of so many pounds (0 to 10000).", ReliefRateEdges::rate);
        all.test(28, "BEYOND.", ReliefRateEdges::rateBeyond);
        all.test(28, "NONE: all WORTH together is 0.", ReliefRateEdges::rateNone);
    }

    private static void list() {
        PoorDesk x = FOUR.make();
        Due.is("none at first", x.list(0, 0, 0), -1);
        Due.is("parish 0 is one", x.list(0, 1, 59), 0);
        Due.is("the same", x.list(0, 1, 0), 1);
        int[] weeks = {-1, 0, 59, 60, Due.LEAST, Due.MOST};
        for (int week : weeks) {
            x.list(0, 1, 0);
            Due.is("none, the week is " + week, x.list(0, -1, week), 1);
            Due.is("none again, the week is " + week, x.list(0, -1, week), -1);
        }
        Due.is("none is no finding", x.told(5), 0);
        Due.answers("from the week on", POOR, y -> y.relief(0, 5), 30);
        Due.answers("ahead of the week", POOR, y -> y.relief(0, 4), Due.NONE);
        Due.answers("another week", POOR.then(y -> y.list(0, 0, 4)), y -> y.relief(0, 4), 30);
        Due.answers("on none", POOR.then(y -> y.list(0, -1, 0)), y -> y.relief(0, 5), Due.NONE);
        Due.answers("another parish", POOR.then(y -> y.list(0, 1, 5)), y -> y.week(0, 5), 0);
    }

    private static void listBeyond() {
        World w = FOUR.then(x -> x.list(0, 1, 7));
        Due.bounds("person", w, (x, v) -> x.list(v, 0, 0), 0, 3, 1, -1);
        Due.beyond("person on none", w, (x, v) -> x.list(v, -1, 0), -1, 4);
        Due.beyond("parish", w, (x, v) -> x.list(0, v, 0), -2, 2, Due.LEAST, Due.MOST);
        Due.answers("the first parish", w, x -> x.list(0, 0, 0), 1);
        Due.answers("the last parish", w, x -> x.list(0, 1, 0), 1);
        Due.bounds("week", w, (x, v) -> x.list(0, 0, v), 0, 59, 1);
        Due.refuses("no person", World.parishes(1), x -> x.list(0, 0, 0), Due.BEYOND);
        Due.refuses("no person, on none", World.parishes(1), x -> x.list(0, -1, 0), Due.BEYOND);
        Due.refuses("nothing at all", World.empty(), x -> x.list(0, -1, 0), Due.BEYOND);
        Due.refuses("all of them", w, x -> x.list(4, 2, 60), Due.BEYOND);
    }

    private static void earns() {
        PoorDesk x = FOUR.make();
        for (int p = 0; p < 4; p++) {
            Due.is("0 at first", x.earns(p, 999), 0);
            Due.is("it was 999", x.earns(p, 0), 999);
            Due.is("it was 0", x.earns(p, p + 1), 0);
        }
        for (int p = 0; p < 4; p++) {
            Due.is("each its own", x.earns(p, 0), p + 1);
        }
    }

    private static void earnsBeyond() {
        World w = FOUR.then(x -> x.earns(0, 3)).then(x -> x.earns(3, 4));
        Due.bounds("person", w, (x, v) -> x.earns(v, 0), 0, 3, 3, 4);
        Due.bounds("v", w, (x, v) -> x.earns(0, v), 0, 999, 3);
        Due.refuses("no person", World.parishes(1), x -> x.earns(0, 0), Due.BEYOND);
        Due.refuses("nothing at all", World.empty(), x -> x.earns(0, 0), Due.BEYOND);
        Due.refuses("both", w, x -> x.earns(4, 1000), Due.BEYOND);
    }

    private static void price() {
        PoorDesk x = new PoorDesk();
        for (int week = 0; week < 60; week++) {
            Due.is("MISSING at first", x.price(week, 1), 0);
            Due.is("it was 1", x.price(week, 99), 1);
            Due.is("it was 99", x.price(week, 0), 99);
            Due.is("it was MISSING", x.price(week, 0), 0);
        }
        Due.is("MISSING is no finding", x.told(5), 0);
        Due.answers("1 is a PRICE", POOR.then(y -> y.price(5, 1)), y -> y.relief(0, 5), 3);
        Due.answers("99 is a PRICE", POOR.then(y -> y.price(5, 99)), y -> y.relief(0, 5), 297);
        Due.answers("0 is none", POOR.then(y -> y.price(5, 0)), y -> y.relief(0, 5), Due.MISSING);
        Due.answers("each week its own", POOR.then(y -> y.price(4, 99)), y -> y.relief(0, 5), 30);
    }

    private static void priceBeyond() {
        World w = World.empty().then(x -> x.price(0, 7)).then(x -> x.price(59, 8));
        Due.bounds("week", w, (x, v) -> x.price(v, 1), 0, 59, 7, 8);
        Due.bounds("v", w, (x, v) -> x.price(59, v), 0, 99, 8);
        Due.beyond("week, MISSING", w, (x, v) -> x.price(v, 0), -1, 60);
        Due.refuses("both", w, x -> x.price(60, 100), Due.BEYOND);
    }

    private static void relief() {
        Due.answers("3 loaves", POOR, x -> x.relief(0, 5), 30);
        Due.answers("it EARNS 29", POOR.then(x -> x.earns(0, 29)), x -> x.relief(0, 5), 1);
        Due.answers("it EARNS 30", POOR.then(x -> x.earns(0, 30)), x -> x.relief(0, 5), 0);
        Due.answers("it EARNS 31", POOR.then(x -> x.earns(0, 31)), x -> x.relief(0, 5), 0);
        Due.answers("it EARNS 999", POOR.then(x -> x.earns(0, 999)), x -> x.relief(0, 5), 0);
        World wife = POOR.then(x -> x.husband(1, 0, 9999)).then(x -> x.list(1, 0, 5));
        Due.answers("with a WIFE", wife, x -> x.relief(0, 5), 50);
        Due.answers("a WIFE", wife, x -> x.relief(1, 5), 0);
        Due.answers("a WIFE on the LIST later", wife.then(x -> x.list(1, 0, 6)), x -> x.relief(0, 5), 30);
        Due.answers("a WIFE on another LIST", wife.then(x -> x.list(1, 1, 5)), x -> x.relief(0, 5), 30);
        Due.answers("a WIFE on another LIST than his", wife.then(x -> x.list(1, 1, 5)), x -> x.relief(1, 5), 30);
        World last = FOUR.then(x -> x.list(3, 1, 59)).then(x -> x.price(59, 99)).then(x -> x.set(1, 20));
        Due.answers("the last week", last, x -> x.relief(3, 59), 1980);
        World nine = World.parishes(1).each(10, (x, p) -> x.person(p == 0 ? 0 : 1, 0, 0))
                .each(9, (x, p) -> x.husband(p + 1, 0, 0)).each(10, (x, p) -> x.list(p, 0, 0))
                .then(x -> x.price(0, 99)).then(x -> x.set(1, 20));
        Due.answers("with nine WIVES", nine, x -> x.relief(0, 0), 99 * 38);
        Due.answers("the last of nine WIVES", nine, x -> x.relief(9, 0), 0);
    }

    private static void reliefBeyond() {
        World all = FOUR.each(4, (x, p) -> x.list(p, 0, 0)).then(x -> x.price(0, 10)).then(x -> x.price(59, 20));
        Due.bounds("person", all, (x, v) -> x.relief(v, 0), 0, 3, 30);
        Due.bounds("week", all, (x, v) -> x.relief(0, v), 0, 59, 30, 60);
        Due.refuses("no person", World.parishes(1), x -> x.relief(0, 0), Due.BEYOND);
        Due.beyond("with NONE and MISSING: person", FOUR, (x, v) -> x.relief(v, 0), -1, 4, Due.LEAST, Due.MOST);
        Due.beyond("with NONE and MISSING: week", FOUR, (x, v) -> x.relief(0, v), -1, 60, Due.LEAST, Due.MOST);
        Due.beyond("with MISSING: week", POOR, (x, v) -> x.relief(0, v), -1, 60);
        World none = FOUR.then(x -> x.price(0, 10)).then(x -> x.price(59, 10));
        Due.beyond("with NONE: week", none, (x, v) -> x.relief(0, v), -1, 60);
    }

    private static void reliefNone() {
        Due.answers("from its week on", POOR, x -> x.relief(0, 5), 30);
        Due.refuses("the week ahead", POOR, x -> x.relief(0, 4), Due.NONE);
        Due.refuses("on none, ever", POOR, x -> x.relief(1, 5), Due.NONE);
        Due.refuses("on none again", POOR.then(x -> x.list(0, -1, 5)), x -> x.relief(0, 5), Due.NONE);
        Due.refuses("with MISSING: the week ahead", POOR.then(x -> x.price(4, 0)), x -> x.relief(0, 4), Due.NONE);
        Due.refuses("with MISSING: on none", FOUR, x -> x.relief(0, 0), Due.NONE);
        World wife = POOR.then(x -> x.husband(1, 0, 0));
        Due.refuses("a WIFE on none, her HUSBAND is on one", wife, x -> x.relief(1, 5), Due.NONE);
        World last = FOUR.then(x -> x.list(0, 0, 59)).each(60, (x, w) -> x.price(w, 1));
        Due.refuses("on a LIST from 59 on, in week 58", last, x -> x.relief(0, 58), Due.NONE);
        Due.answers("on a LIST from 59 on, in week 59", last, x -> x.relief(0, 59), 3);
    }

    private static void reliefMissing() {
        Due.refuses("the week behind", POOR, x -> x.relief(0, 6), Due.MISSING);
        Due.refuses("the last week", POOR, x -> x.relief(0, 59), Due.MISSING);
        Due.refuses("MISSING again", POOR.then(x -> x.price(5, 0)), x -> x.relief(0, 5), Due.MISSING);
        Due.refuses("it EARNS all", POOR.then(x -> x.earns(0, 999)), x -> x.relief(0, 6), Due.MISSING);
        World wife = POOR.then(x -> x.husband(1, 0, 0)).then(x -> x.list(1, 0, 0));
        Due.refuses("a WIFE whose HUSBAND is on the same", wife, x -> x.relief(1, 6), Due.MISSING);
        Due.answers("the same, with a PRICE", wife, x -> x.relief(1, 5), 0);
    }

    private static void week() {
        Due.answers("with none", POOR, x -> x.week(1, 5), 0);
        Due.answers("with none yet", POOR, x -> x.week(0, 4), 0);
        Due.answers("with one", POOR, x -> x.week(0, 5), 30);
        World all = POOR.each(4, (x, p) -> x.list(p, 0, 5));
        Due.answers("with all four", all, x -> x.week(0, 5), 120);
        Due.answers("one EARNS too much", all.then(x -> x.earns(3, 999)), x -> x.week(0, 5), 90);
        Due.answers("one is a WIFE", all.then(x -> x.husband(1, 3, 0)), x -> x.week(0, 5), 110);
        Due.answers("one is on it later", all.then(x -> x.list(2, 0, 6)), x -> x.week(0, 5), 90);
        Due.answers("one is on another", all.then(x -> x.list(2, 1, 0)), x -> x.week(0, 5), 90);
        World ten = World.parishes(1).each(10, (x, p) -> x.person(0, 0, 0)).each(10, (x, p) -> x.list(p, 0, 59))
                .then(x -> x.price(59, 99)).then(x -> x.set(1, 20));
        Due.answers("with ten, the most", ten, x -> x.week(0, 59), 19800);
        Due.answers("no person at all", World.parishes(1).then(x -> x.price(0, 1)), x -> x.week(0, 0), 0);
    }

    private static void weekBeyond() {
        World w = POOR.then(x -> x.list(1, 1, 0)).then(x -> x.price(0, 7)).then(x -> x.price(59, 8));
        Due.bounds("parish", w, (x, v) -> x.week(v, 5), 0, 1, 30);
        Due.bounds("week", w, (x, v) -> x.week(1, v), 0, 59, 21, 24);
        Due.refuses("no parish", World.empty().then(x -> x.price(0, 1)), x -> x.week(0, 0), Due.BEYOND);
        Due.refuses("with MISSING: no parish", World.empty(), x -> x.week(0, 0), Due.BEYOND);
        Due.beyond("with MISSING: parish", POOR, (x, v) -> x.week(v, 6), -1, 2, Due.LEAST, Due.MOST);
        Due.beyond("with MISSING: week", POOR, (x, v) -> x.week(0, v), -1, 60, Due.LEAST, Due.MOST);
    }

    private static void weekMissing() {
        Due.refuses("with one", POOR, x -> x.week(0, 6), Due.MISSING);
        Due.refuses("with none", POOR, x -> x.week(1, 6), Due.MISSING);
        Due.refuses("with none at all", World.parishes(1), x -> x.week(0, 0), Due.MISSING);
        Due.refuses("the last week", World.parishes(6), x -> x.week(5, 59), Due.MISSING);
        Due.refuses("MISSING again", POOR.then(x -> x.price(5, 0)), x -> x.week(0, 5), Due.MISSING);
    }

    private static void rate() {
        World one = World.empty().then(x -> x.parish(1));
        Due.answers("nothing of nothing", one, x -> x.rate(0, 0), 0);
        Due.answers("1 of one parish", one, x -> x.rate(0, 1), 1);
        Due.answers("10000 of one parish", one, x -> x.rate(0, 10000), 10000);
        World two = one.then(x -> x.parish(0)).then(x -> x.parish(10000));
        // 10000 pounds of 10001: 0 r 10000, 0 r 0, 9999 r 1; 1 is left
        Due.answers("the least WORTH of two, the greater rest", two, x -> x.rate(0, 10000), 1);
        Due.answers("WORTH 0", two, x -> x.rate(1, 10000), 0);
        Due.answers("the most WORTH of two", two, x -> x.rate(2, 10000), 9999);
        for (int pounds = 0; pounds <= 10000; pounds += 1250) {
            PoorDesk x = World.full().make();
            int all = 0;
            for (int p = 0; p < 6; p++) {
                all += x.rate(p, pounds);
            }
            Due.is("all give the whole RATE", all, pounds);
        }
    }

    private static void rateBeyond() {
        World w = World.empty().then(x -> x.parish(3)).then(x -> x.parish(4)).then(x -> x.parish(5));
        Due.bounds("parish", w, (x, v) -> x.rate(v, 12), 0, 2, 3, 5);
        Due.bounds("pounds", w, (x, v) -> x.rate(0, v), 0, 10000, 0, 2500);
        Due.refuses("no parish", World.empty(), x -> x.rate(0, 1), Due.BEYOND);
        World worthless = World.empty().then(x -> x.parish(0));
        Due.beyond("with NONE: parish", worthless, (x, v) -> x.rate(v, 1), -1, 1, Due.LEAST, Due.MOST);
        Due.beyond("with NONE: pounds", worthless, (x, v) -> x.rate(0, v), -1, 10001, Due.LEAST, Due.MOST);
    }

    private static void rateNone() {
        World six = World.empty().each(6, (x, p) -> x.parish(0));
        for (int p = 0; p < 6; p++) {
            int parish = p;
            Due.refuses("six of WORTH 0", six, x -> x.rate(parish, 10000), Due.NONE);
        }
        Due.refuses("a RATE of 0", six, x -> x.rate(0, 0), Due.NONE);
        Due.refuses("one of WORTH 0", World.empty().then(x -> x.parish(0)), x -> x.rate(0, 1), Due.NONE);
        World one = World.empty().each(5, (x, p) -> x.parish(0)).then(x -> x.parish(1));
        Due.answers("one of WORTH 1", one, x -> x.rate(5, 7), 7);
        Due.answers("the others then", one, x -> x.rate(0, 7), 0);
    }
}
