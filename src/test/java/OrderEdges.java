/** The sentences of promises 18 to 22: orders. */
final class OrderEdges {
    // PERSON 0 and CHILD 2 are settled in parish 0, the others in 1, from day 10 on; 2 is one parish more.
    private static final World SETTLED = World.settled().then(x -> x.parish(5)).then(x -> x.miles(0, 1, 5))
            .then(x -> x.miles(1, 2, 99));
    private static final World TWENTY = SETTLED.each(20, (x, o) -> x.order(o % 4, o % 2, 1 - o % 2, 100 + o));
    // ORDER 0 is right, 1 is wrong, both of day 100.
    private static final World TWO = SETTLED.then(x -> x.order(0, 1, 0, 100)).then(x -> x.order(0, 0, 1, 100));

    private OrderEdges() {
    }

    static void tell(Sentences all) {
        all.test(18, "AN ORDER: its number.", OrderEdges::order);
        all.test(18, "BEYOND: no such person, parish (either), or day.", OrderEdges::orderBeyond);
        all.test(18, "SIZE: both parishes are one.", OrderEdges::orderSize);
        all.test(18, "FULL: there are 20.", OrderEdges::orderFull);
        all.test(19, "AN APPEAL: 1 it is QUASHED, 0 CONFIRMED.", OrderEdges::appeal);
        all.test(19, "BEYOND: no such ORDER, or day.", OrderEdges::appealBeyond);
        all.test(19, "KIND: it was decided already.", OrderEdges::appealKind);
        all.test(19, "LATE: the day is ahead of the ORDER's, or more than TERM behind.", OrderEdges::appealLate);
        all.test(20, "Of an ORDER: 0 the person, 1 from which parish, 2 to which, 3 its day, 4 COSTS, 5 how it is: "
                + "0 it STANDS, 1 CONFIRMED, 2 QUASHED.", OrderEdges::ordered);
        all.test(20, "BEYOND: no such ORDER, or another what.", OrderEdges::orderedBeyond);
        all.test(21, "All COSTS that a parish bears.", OrderEdges::costs);
        all.test(21, "BEYOND.", OrderEdges::costsBeyond);
        all.test(22, "TERM (what 0) or SCALE (1) becomes v: what it was.", OrderEdges::set);
        all.test(22, "BEYOND: another what, or v.", OrderEdges::setBeyond);
    }

    private static void order() {
        PoorDesk x = SETTLED.make();
        for (int o = 0; o < 20; o++) {
            Due.is("order(" + o % 4 + ", ..)", x.order(o % 4, o % 3, (o + 1) % 3, 500 * o), o);
            Due.is("told(4)", x.told(4), o + 1);
            Due.is("it STANDS", x.ordered(o, 5), 0);
        }
    }

    private static void orderBeyond() {
        Due.bounds("person", SETTLED, (x, v) -> x.order(v, 0, 1, 0), 0, 3, 0);
        Due.beyond("from", SETTLED, (x, v) -> x.order(0, v, 1, 0), -1, 3, Due.LEAST, Due.MOST);
        Due.beyond("to", SETTLED, (x, v) -> x.order(0, 1, v, 0), -1, 3, Due.LEAST, Due.MOST);
        Due.answers("from the first to the last", SETTLED, x -> x.order(0, 0, 2, 0), 0);
        Due.answers("from the last to the first", SETTLED, x -> x.order(0, 2, 0, 0), 0);
        Due.bounds("day", SETTLED, (x, v) -> x.order(0, 0, 1, v), 0, 9999, 0);
        Due.refuses("no person", World.parishes(2), x -> x.order(0, 0, 1, 0), Due.BEYOND);
        Due.refuses("no parish", World.empty(), x -> x.order(0, 0, 1, 0), Due.BEYOND);
        Due.refuses("one parish", World.parishes(1).then(x -> x.person(0, 0, 0)), x -> x.order(0, 0, 1, 0), Due.BEYOND);
        Due.beyond("with SIZE: person", SETTLED, (x, v) -> x.order(v, 1, 1, 0), -1, 4);
        Due.beyond("with SIZE: both parishes", SETTLED, (x, v) -> x.order(0, v, v, 0), -1, 3);
        Due.beyond("with SIZE: day", SETTLED, (x, v) -> x.order(0, 1, 1, v), -1, 10000);
        Due.beyond("with FULL: person", TWENTY, (x, v) -> x.order(v, 0, 1, 0), -1, 4);
        Due.beyond("with FULL: from", TWENTY, (x, v) -> x.order(0, v, 1, 0), -1, 3);
        Due.beyond("with FULL: to", TWENTY, (x, v) -> x.order(0, 0, v, 0), -1, 3);
        Due.beyond("with FULL: day", TWENTY, (x, v) -> x.order(0, 0, 1, v), -1, 10000);
        Due.beyond("with SIZE and FULL: day", TWENTY, (x, v) -> x.order(0, 1, 1, v), -1, 10000);
    }

    private static void orderSize() {
        for (int p = 0; p < 3; p++) {
            int one = p;
            Due.refuses("from " + p + " to " + p, SETTLED, x -> x.order(0, one, one, 0), Due.SIZE);
            Due.refuses("with FULL: from " + p + " to " + p, TWENTY, x -> x.order(0, one, one, 9999), Due.SIZE);
        }
        Due.refuses("the only parish", World.parishes(1).then(x -> x.person(0, 0, 0)),
                x -> x.order(0, 0, 0, 0), Due.SIZE);
    }

    private static void orderFull() {
        World nineteen = SETTLED.each(19, (x, o) -> x.order(0, 0, 1, o));
        Due.answers("the 20th", nineteen, x -> x.order(3, 2, 0, 9999), 19);
        Due.refuses("the 21st", TWENTY, x -> x.order(0, 0, 1, 0), Due.FULL);
        Due.refuses("the 21st, alike to another", TWENTY, x -> x.order(0, 0, 1, 100), Due.FULL);
        World decided = TWENTY.each(20, (x, o) -> x.appeal(o, 119));
        Due.refuses("the 21st, the others are decided", decided, x -> x.order(0, 0, 1, 0), Due.FULL);
        Due.refuses("the 21st where all is full", World.full(), x -> x.order(0, 0, 1, 0), Due.FULL);
    }

    private static void appeal() {
        Due.answers("to its settlement", TWO, x -> x.appeal(0, 100), 0);
        Due.answers("it is CONFIRMED", TWO.then(x -> x.appeal(0, 100)), x -> x.ordered(0, 5), 1);
        Due.answers("to another parish", TWO, x -> x.appeal(1, 100), 1);
        Due.answers("it is QUASHED", TWO.then(x -> x.appeal(1, 100)), x -> x.ordered(1, 5), 2);
        Due.answers("the other one STANDS", TWO.then(x -> x.appeal(1, 100)), x -> x.ordered(0, 5), 0);
        World early = SETTLED.then(x -> x.order(0, 1, 0, 9)).then(x -> x.order(0, 1, 0, 10));
        Due.answers("there is no settlement on its day", early, x -> x.appeal(0, 20), 1);
        Due.answers("there is one on its day", early, x -> x.appeal(1, 20), 0);
        Due.answers("no settlement is no finding here", early.then(x -> x.appeal(0, 20)), x -> x.told(5), 0);
        PoorDesk x = TWENTY.make();
        for (int o = 0; o < 20; o++) {
            // 0 and 2 are taken from their own parish to the other one, 1 and 3 too
            Due.is("ORDER " + o + " of twenty", x.appeal(o, 119), 1);
        }
    }

    private static void appealBeyond() {
        Due.bounds("ORDER", TWO, (x, v) -> x.appeal(v, 100), 0, 1, 0, 1);
        Due.bounds("ORDER of twenty", TWENTY, (x, v) -> x.appeal(v, 119), 0, 19, 1);
        Due.bounds("day", SETTLED.then(x -> x.order(0, 1, 0, 0)), (x, v) -> x.appeal(0, v), 0, 9999, 1, Due.LATE);
        Due.answers("the last day", SETTLED.then(x -> x.order(0, 1, 0, 9999)), x -> x.appeal(0, 9999), 0);
        Due.refuses("no ORDER", SETTLED, x -> x.appeal(0, 0), Due.BEYOND);
        Due.refuses("nothing at all", World.empty(), x -> x.appeal(0, 0), Due.BEYOND);
        World decided = TWO.then(x -> x.appeal(0, 100)).then(x -> x.appeal(1, 100));
        Due.beyond("with KIND and LATE: of a CONFIRMED one", decided, (x, v) -> x.appeal(0, v), -1, 10000);
        Due.beyond("with KIND and LATE: of a QUASHED one", decided, (x, v) -> x.appeal(1, v), -1, 10000);
        World late = SETTLED.then(x -> x.set(0, 999)).then(x -> x.order(0, 1, 0, 9999)).then(x -> x.appeal(0, 9999));
        Due.refuses("with KIND: the day is in time", late, x -> x.appeal(0, 10000), Due.BEYOND);
        Due.beyond("with LATE: day", TWO, (x, v) -> x.appeal(0, v), -1, 10000);
        Due.beyond("with LATE: ORDER", TWO, (x, v) -> x.appeal(v, 0), -1, 2);
    }

    private static void appealKind() {
        World decided = TWO.then(x -> x.appeal(0, 100)).then(x -> x.appeal(1, 130));
        for (int o = 0; o <= 1; o++) {
            int order = o;
            int[] days = {100, 130, 160};
            int[] late = {0, 99, 161, 9999};
            for (int day : days) {
                Due.refuses("ORDER " + o + " on day " + day, decided, x -> x.appeal(order, day), Due.KIND);
            }
            for (int day : late) {
                Due.refuses("with LATE: ORDER " + o + " on day " + day, decided, x -> x.appeal(order, day), Due.KIND);
            }
        }
        World kept = TWO.then(x -> x.keep()).then(x -> x.appeal(0, 100)).then(x -> x.back());
        Due.answers("it was not decided when it was kept", kept, x -> x.appeal(0, 100), 0);
    }

    private static void appealLate() {
        Due.answers("on the ORDER's day", TWO, x -> x.appeal(0, 100), 0);
        Due.refuses("the day ahead", TWO, x -> x.appeal(0, 99), Due.LATE);
        Due.refuses("day 0", TWO, x -> x.appeal(0, 0), Due.LATE);
        Due.answers("60 days behind", TWO, x -> x.appeal(0, 160), 0);
        Due.refuses("61 days behind", TWO, x -> x.appeal(0, 161), Due.LATE);
        Due.refuses("the last of all days", TWO, x -> x.appeal(0, 9999), Due.LATE);
        World none = TWO.then(x -> x.set(0, 0));
        Due.answers("TERM 0, on its day", none, x -> x.appeal(0, 100), 0);
        Due.refuses("TERM 0, the day behind", none, x -> x.appeal(0, 101), Due.LATE);
        Due.refuses("TERM 0, the day ahead", none, x -> x.appeal(0, 99), Due.LATE);
        World long999 = TWO.then(x -> x.set(0, 999));
        Due.answers("TERM 999, 999 days behind", long999, x -> x.appeal(1, 1099), 1);
        Due.refuses("TERM 999, 1000 days behind", long999, x -> x.appeal(1, 1100), Due.LATE);
        Due.refuses("TERM 999, the day ahead", long999, x -> x.appeal(1, 99), Due.LATE);
        World last = SETTLED.then(x -> x.order(0, 1, 0, 9999));
        Due.refuses("an ORDER of the last day, the day ahead", last, x -> x.appeal(0, 9998), Due.LATE);
        World first = SETTLED.then(x -> x.order(0, 1, 0, 0));
        Due.answers("an ORDER of day 0, on day 60", first, x -> x.appeal(0, 60), 1);
        Due.refuses("an ORDER of day 0, on day 61", first, x -> x.appeal(0, 61), Due.LATE);
    }

    private static void ordered() {
        World w = SETTLED.then(x -> x.order(3, 2, 1, 9999)).then(x -> x.order(0, 0, 2, 0));
        int[] due = {3, 2, 1, 9999, 396, 0};
        int[] other = {0, 0, 2, 0, 0, 0};
        for (int what = 0; what <= 5; what++) {
            int asked = what;
            Due.answers("ordered(0, " + what + ")", w, x -> x.ordered(0, asked), due[what]);
            Due.answers("ordered(1, " + what + ")", w, x -> x.ordered(1, asked), other[what]);
        }
        Due.answers("CONFIRMED", w.then(x -> x.appeal(0, 9999)), x -> x.ordered(0, 5), 1);
        Due.answers("QUASHED", w.then(x -> x.appeal(1, 0)), x -> x.ordered(1, 5), 2);
        for (int what = 0; what <= 4; what++) {
            int asked = what;
            Due.answers("decided, the rest stays: " + what, w.then(x -> x.appeal(1, 0)),
                    x -> x.ordered(1, asked), other[what]);
        }
    }

    private static void orderedBeyond() {
        Due.bounds("ORDER", TWO, (x, v) -> x.ordered(v, 1), 0, 1, 1, 0);
        Due.bounds("ORDER of twenty", TWENTY, (x, v) -> x.ordered(v, 3), 0, 19, 100, 119);
        Due.bounds("what", TWO, (x, v) -> x.ordered(1, v), 0, 5, 0);
        Due.refuses("no ORDER", SETTLED, x -> x.ordered(0, 0), Due.BEYOND);
        Due.refuses("nothing at all", World.empty(), x -> x.ordered(0, 0), Due.BEYOND);
        Due.refuses("neither", TWO, x -> x.ordered(2, 6), Due.BEYOND);
    }

    private static void costs() {
        World w = SETTLED.each(10, (x, o) -> x.order(1, 1, 2, 100)).each(10, (x, o) -> x.order(0, 2, 1, 100));
        Due.answers("with no ORDER", SETTLED, x -> x.costs(1), 0);
        Due.answers("of ten", w, x -> x.costs(1), 3960);
        Due.answers("of the other ten", w, x -> x.costs(2), 3960);
        Due.answers("of none", w, x -> x.costs(0), 0);
        World decided = w.each(20, (x, o) -> x.appeal(o, 100));
        Due.answers("ten are QUASHED each way", decided, x -> x.costs(1), 3960);
        World half = w.each(10, (x, o) -> x.appeal(o, 100));
        Due.answers("from which ten took, with ten others", half, x -> x.costs(1), 7920);
        Due.answers("to which ten took", half, x -> x.costs(2), 0);
        Due.answers("MILES of 0", SETTLED.then(x -> x.order(0, 0, 2, 0)), x -> x.costs(2), 0);
    }

    private static void costsBeyond() {
        World w = SETTLED.then(x -> x.order(0, 1, 2, 0)).then(x -> x.order(0, 1, 0, 0));
        Due.bounds("parish", w, (x, v) -> x.costs(v), 0, 2, 20, 396);
        Due.bounds("parish of six", World.parishes(6), (x, v) -> x.costs(v), 0, 5, 0);
        Due.refuses("no parish", World.empty(), x -> x.costs(0), Due.BEYOND);
    }

    private static void set() {
        PoorDesk x = new PoorDesk();
        Due.is("TERM, at first", x.set(0, 0), 60);
        Due.is("TERM, it was 0", x.set(0, 999), 0);
        Due.is("SCALE, at first", x.set(1, 1), 3);
        Due.is("SCALE, it was 1", x.set(1, 20), 1);
        Due.is("SCALE, it was 20", x.set(1, 20), 20);
        Due.is("TERM, it was 999", x.set(0, 60), 999);
        World poor = SETTLED.then(y -> y.list(0, 0, 0)).then(y -> y.price(0, 99));
        Due.answers("SCALE 1", poor.then(y -> y.set(1, 1)), y -> y.relief(0, 0), 99);
        Due.answers("SCALE 20", poor.then(y -> y.set(1, 20)), y -> y.relief(0, 0), 1980);
        Due.answers("TERM does not change SCALE", poor.then(y -> y.set(0, 20)), y -> y.relief(0, 0), 297);
        Due.answers("SCALE does not change TERM", TWO.then(y -> y.set(1, 20)), y -> y.appeal(0, 160), 0);
    }

    private static void setBeyond() {
        World none = World.empty();
        Due.bounds("TERM", none, (x, v) -> x.set(0, v), 0, 999, 60);
        Due.bounds("SCALE", none, (x, v) -> x.set(1, v), 1, 20, 3);
        Due.bounds("what", none, (x, v) -> x.set(v, 5), 0, 1, 60, 3);
        Due.refuses("TERM 21 is one, SCALE 21 is none", none, x -> x.set(1, 21), Due.BEYOND);
        Due.answers("TERM 21", none, x -> x.set(0, 21), 60);
        Due.refuses("neither", none, x -> x.set(2, -1), Due.BEYOND);
    }
}
