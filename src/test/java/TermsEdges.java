import java.util.function.ToIntFunction;

/** The sentences of 'Terms' on findings, days, parishes, persons, facts, laws and sheets. */
final class TermsEdges {
    private static final World FOUR = World.people();

    private TermsEdges() {
    }

    static void tell(Sentences all) {
        int terms = Sentences.TERMS;
        all.test(terms, "An object is used for at most 512 calls after it has been made; what later calls answer is free.",
                TermsEdges::calls);
        all.test(terms, "FINDINGS are answers below -99999: -100001 BEYOND, -100002 MISSING, -100003 SIZE, -100004 KIND, "
                + "-100005 FULL, -100006 NONE, -100007 RING, -100008 LATE.", TermsEdges::findings);
        all.test(terms, "Each act tells its findings in the order in which they are asked; an act that answers a finding "
                + "changes nothing.", TermsEdges::inOrder);
        all.test(terms, "DAYS are 0 to 9999.", TermsEdges::days);
        all.test(terms, "Sets are told by bits.", TermsEdges::sets);
        all.test(terms, "PARISHES 0, 1, .. (at most 6) have a WORTH (0 to 10000).", TermsEdges::parishes);
        all.test(terms, "MILES between two of them are 0 to 99 (0 at first; the same both ways; 0 to itself).",
                TermsEdges::miles);
        all.test(terms, "PERSONS 0, 1, .. (at most 10) are of a kind: 0 PERSON, 1 WIFE under it, 2 CHILD under PERSON, "
                + "3 FOUNDLING under CHILD; each has a DAY of birth and a parish of it (of a FOUNDLING: where it was "
                + "found).", TermsEdges::persons);
        all.test(terms, "A WIFE may have a HUSBAND from a day on, a CHILD (no FOUNDLING) a FATHER: another person, or "
                + "none, at first; never in a RING: by HUSBANDS and FATHERS from one to the next none comes back to "
                + "itself.", TermsEdges::rings);
        all.test(terms, "FACTS 0, 1, .. (at most 24) are of a person: a SERVICE (0) in a parish from a day to a day, or a "
                + "RENT (1) of so many pounds (0 to 99) in a parish from a day to a day (the first not above the second); "
                + "each KNOWN since a day, DOUBTED (at most 8 of all) or not.", TermsEdges::facts);
        all.test(terms, "LAWS 0, 1, .. (at most 12) are of a kind: 0 BIRTH, 1 SERVICE (of a NUMBER of days), 2 RENT (of a "
                + "NUMBER of pounds), 3 MARRIAGE, 4 FATHER (of a NUMBER of days); in force from a day to a day (both, too; "
                + "the first not above the second).", TermsEdges::laws);
        all.test(terms, "NUMBERS are 0 to 9999 (of BIRTH, MARRIAGE not looked at).", TermsEdges::numbers);
        all.test(terms, "SHEETS 0 to 3 are rows of up to 60 numbers of 8, 16 or 32 bits, or MISSING (all, at first).",
                TermsEdges::sheets);
    }

    private static void calls() {
        PoorDesk x = World.full().make();
        int due = x.could(4, 9999, 9999);
        for (int call = World.full().size() + 2; call <= 512; call++) {
            Due.is("call " + call, x.could(4, 9999, 9999), due);
        }
        PoorDesk y = new PoorDesk();
        for (int call = 1; call <= 511; call++) {
            Due.is("call " + call, y.forget(), Due.NONE);
        }
        Due.is("call 512", y.told(5), 511);
        PoorDesk z = World.people().make();
        for (int call = World.people().size() + 1; call <= 511; call++) {
            Due.is("call " + call, call % 2 == 0 ? z.keep() : z.back(), call % 2 == 0 ? 4 : call == 7 ? Due.NONE : 4);
        }
        Due.is("call 512", z.back(), 4);
    }

    private static void findings() {
        Due.refuses("BEYOND", World.empty(), x -> x.parish(-1), -100001);
        Due.refuses("MISSING", World.empty(), x -> x.read(0), -100002);
        Due.refuses("SIZE", World.parishes(1), x -> x.miles(0, 0, 0), -100003);
        Due.refuses("KIND", FOUR, x -> x.as(0, 1), -100004);
        Due.refuses("FULL", World.parishes(6), x -> x.parish(0), -100005);
        Due.refuses("NONE", World.empty(), x -> x.forget(), -100006);
        Due.refuses("RING", FOUR, x -> x.husband(1, 1, 0), -100007);
        Due.refuses("LATE", FOUR.then(x -> x.order(0, 0, 1, 9)), x -> x.appeal(0, 8), -100008);
        PoorDesk x = FOUR.make();
        x.husband(1, 0, 0);
        x.husband(1, -1, 0);
        x.father(2, -1);
        x.list(0, -1, 0);
        x.price(0, 0);
        Due.is("-1 and 0 are no findings", x.told(5), 0);
    }

    /** Each act with all the findings at once that it can have, then without the first of them, and so on. */
    private static void inOrder() {
        World full = World.full().then(x -> x.sheet(2, 0, 0)).then(x -> x.price(0, 0));
        told(full, "parish", Due.BEYOND, x -> x.parish(-1), Due.FULL, x -> x.parish(0));
        told(full, "miles", Due.BEYOND, x -> x.miles(0, 0, 100), Due.SIZE, x -> x.miles(0, 0, 99));
        told(full, "person", Due.BEYOND, x -> x.person(4, 6, -1), Due.FULL, x -> x.person(3, 5, 0));
        told(full, "as", Due.BEYOND, x -> x.as(0, 4), Due.KIND, x -> x.as(0, 3));
        told(full, "husband", Due.BEYOND, x -> x.husband(0, 0, -1), Due.KIND, x -> x.husband(0, 0, 0));
        told(full, "husband", Due.BEYOND, x -> x.husband(1, 1, -1), Due.RING, x -> x.husband(1, 1, 0));
        told(full, "father", Due.BEYOND, x -> x.father(10, 10), Due.KIND, x -> x.father(5, 5));
        told(full, "father", Due.BEYOND, x -> x.father(2, 10), Due.RING, x -> x.father(2, 4));
        told(full, "fact", Due.BEYOND, x -> x.fact(1, 0, 0, 100, 9, 8, 0), Due.SIZE, x -> x.fact(1, 0, 0, 99, 9, 8, 0));
        told(full, "fact", Due.SIZE, x -> x.fact(0, 0, 0, 0, 9, 8, 0), Due.FULL, x -> x.fact(0, 0, 0, 0, 8, 8, 0));
        told(full, "doubt", Due.BEYOND, x -> x.doubt(24, true), Due.FULL, x -> x.doubt(23, true));
        told(full, "law", Due.BEYOND, x -> x.law(4, 10000, 9, 8), Due.SIZE, x -> x.law(4, 9999, 9, 8));
        told(full, "law", Due.SIZE, x -> x.law(0, 10000, 9, 8), Due.FULL, x -> x.law(0, 10000, 8, 8));
        told(full, "ends", Due.BEYOND, x -> x.ends(11, -1), Due.SIZE, x -> x.ends(11, 0));
        told(full, "own", Due.BEYOND, x -> x.own(5, -1, 0), Due.NONE, x -> x.own(5, 0, 0));
        told(full, "settlement", Due.BEYOND, x -> x.settlement(5, 0, -1), Due.NONE, x -> x.settlement(5, 0, 0));
        World sure = full.each(8, (x, f) -> x.doubt(3 * f, false));
        told(sure, "question", Due.BEYOND, x -> x.question(10, 0, 0), Due.NONE, x -> x.question(9, 0, 0));
        told(full, "order", Due.BEYOND, x -> x.order(0, 5, 5, 10000), Due.SIZE, x -> x.order(0, 5, 5, 9999));
        told(full, "order", Due.SIZE, x -> x.order(0, 5, 5, 0), Due.FULL, x -> x.order(0, 5, 4, 0));
        told(full, "appeal", Due.BEYOND, x -> x.appeal(0, 10000), Due.KIND, x -> x.appeal(0, 9999));
        told(full, "appeal", Due.BEYOND, x -> x.appeal(20, 0), Due.LATE, x -> x.appeal(19, 0));
        told(full, "relief", Due.BEYOND, x -> x.relief(10, 0), Due.NONE, x -> x.relief(9, 0));
        told(full, "relief", Due.NONE, x -> x.relief(1, 0), Due.MISSING, x -> x.relief(0, 0));
        told(full, "week", Due.BEYOND, x -> x.week(6, 0), Due.MISSING, x -> x.week(5, 0));
        World worthless = World.empty().then(x -> x.parish(0));
        told(worthless, "rate", Due.BEYOND, x -> x.rate(0, 10001), Due.NONE, x -> x.rate(0, 10000));
        told(full, "sheet", Due.BEYOND, x -> x.sheet(0, 7, -1), Due.SIZE, x -> x.sheet(0, 8, -1));
        told(full, "put", Due.BEYOND, x -> x.put(4, 60, 0), Due.MISSING, x -> x.put(2, 60, 0));
        told(full, "copy", Due.BEYOND, x -> x.copy(2, -1, 4, -1, -1), Due.MISSING, x -> x.copy(2, -1, 3, -1, -1));
        told(full, "copy", Due.KIND, x -> x.copy(1, -1, 3, -1, -1), Due.BEYOND, x -> x.copy(1, -1, 1, -1, -1));
    }

    private static void told(World w, String act, int first, ToIntFunction<PoorDesk> both, int second,
            ToIntFunction<PoorDesk> without) {
        Due.refuses(act + ", with both", w, both, first);
        Due.refuses(act + ", without the first", w, without, second);
    }

    private static void days() {
        World w = World.settled().then(x -> x.fact(0, 0, 0, 0, 0, 0, 0)).then(x -> x.doubt(0, true))
                .then(x -> x.order(0, 1, 0, 0)).then(x -> x.order(0, 1, 0, 9999));
        Due.bounds("of birth", w, (x, v) -> x.person(0, 0, v), 0, 9999, 4);
        Due.bounds("from which she has a HUSBAND", w, (x, v) -> x.husband(1, 0, v), 0, 9999, -1);
        Due.bounds("a fact's first", w, (x, v) -> x.fact(0, 0, 0, 0, v, 9999, 0), 0, 9999, 1);
        Due.bounds("a fact's last", w, (x, v) -> x.fact(0, 0, 0, 0, 0, v, 0), 0, 9999, 1);
        Due.bounds("since which it is KNOWN", w, (x, v) -> x.fact(0, 0, 0, 0, 0, 0, v), 0, 9999, 1);
        Due.bounds("a law's first", w, (x, v) -> x.law(0, 0, v, 9999), 0, 9999, 1);
        Due.bounds("a law's last", w, (x, v) -> x.law(0, 0, 0, v), 0, 9999, 1);
        Due.bounds("on which it ends", w, (x, v) -> x.ends(0, v), 0, 9999, 9999);
        Due.bounds("D of own", w, (x, v) -> x.own(1, v, 0), 0, 9999, Due.NONE, 1);
        Due.bounds("K of own", w, (x, v) -> x.own(1, 10, v), 0, 9999, 1);
        Due.bounds("D of settlement", w, (x, v) -> x.settlement(1, v, 0), 0, 9999, Due.NONE, 1);
        Due.bounds("K of settlement", w, (x, v) -> x.settlement(1, 10, v), 0, 9999, 1);
        Due.bounds("D of through", w, (x, v) -> x.through(1, v, 0), 0, 9999, 1);
        Due.bounds("K of through", w, (x, v) -> x.through(1, 10, v), 0, 9999, 1);
        Due.bounds("D of could", w, (x, v) -> x.could(1, v, 0), 0, 9999, 64, 2);
        Due.bounds("K of could", w, (x, v) -> x.could(1, 10, v), 0, 9999, 2);
        Due.bounds("D of question", w, (x, v) -> x.question(1, v, 0), 0, 9999, 0);
        Due.bounds("K of question", w, (x, v) -> x.question(1, 10, v), 0, 9999, 0);
        Due.bounds("of an ORDER", w, (x, v) -> x.order(0, 0, 1, v), 0, 9999, 2);
        Due.bounds("of an APPEAL", w, (x, v) -> x.appeal(0, v), 0, 9999, 1, Due.LATE);
        Due.answers("of an APPEAL, the last", w, x -> x.appeal(1, 9999), 0);
    }

    private static void sets() {
        for (int p = 0; p < 6; p++) {
            int parish = p;
            World w = World.parishes(6).then(x -> x.person(0, parish, 5)).then(x -> x.law(0, 0, 0, 9));
            Due.answers("parish " + p, w, x -> x.could(0, 5, 0), 1 << p);
            World two = w.then(x -> x.law(1, 1, 0, 9)).then(x -> x.fact(0, 0, 5 - parish, 0, 6, 6, 0))
                    .then(x -> x.doubt(0, true));
            Due.answers("parish " + p + " and " + (5 - p), two, x -> x.could(0, 6, 0), 1 << p | 1 << 5 - p);
        }
        Due.answers("none", FOUR, x -> x.could(0, 0, 0), 1 << 6);
    }

    private static void parishes() {
        World w = World.empty();
        for (int p = 0; p < 6; p++) {
            Due.answers("the number " + p, w, x -> x.parish(10000), p);
            Due.refuses("no number " + p + " yet", w, costsOf(p), Due.BEYOND);
            w = w.then(x -> x.parish(10000));
        }
        Due.refuses("one more than 6", w, x -> x.parish(10000), Due.FULL);
        Due.refuses("no number 6", w, costsOf(6), Due.BEYOND);
        Due.bounds("WORTH", World.empty(), (x, v) -> x.parish(v), 0, 10000, 0);
        World worth = World.empty().then(x -> x.parish(0)).then(x -> x.parish(1)).then(x -> x.parish(9999));
        Due.answers("WORTH 0", worth, x -> x.rate(0, 10000), 0);
        Due.answers("WORTH 1", worth, x -> x.rate(1, 10000), 1);
        Due.answers("WORTH 9999", worth, x -> x.rate(2, 10000), 9999);
        World most = World.empty().then(x -> x.parish(10000)).then(x -> x.parish(10000));
        Due.answers("WORTH 10000", most, x -> x.rate(1, 10000), 5000);
    }

    private static ToIntFunction<PoorDesk> costsOf(int parish) {
        return x -> x.costs(parish);
    }

    private static void miles() {
        World six = World.parishes(6);
        for (int i = 0; i < 36; i++) {
            int a = i / 6;
            int b = i % 6;
            if (a == b) {
                Due.refuses("to itself they stay", six, x -> x.miles(a, a, 7), Due.SIZE);
            } else {
                Due.answers("0 at first", six, x -> x.miles(a, b, 7), 0);
                Due.answers("the same both ways", six.then(x -> x.miles(a, b, 7)), x -> x.miles(b, a, 0), 7);
            }
        }
        Due.bounds("MILES", six, (x, v) -> x.miles(4, 5, v), 0, 99, 0);
        World far = six.then(x -> x.person(0, 0, 0)).then(x -> x.miles(4, 5, 99)).then(x -> x.order(0, 4, 5, 0));
        Due.answers("99 of them", far, x -> x.ordered(0, 4), 396);
    }

    private static void persons() {
        World w = World.parishes(6).then(x -> x.law(0, 0, 0, 9999));
        for (int p = 0; p < 10; p++) {
            int person = p;
            Due.answers("the number " + p, w, x -> x.person(person % 4, 0, 0), p);
            Due.refuses("no number " + p + " yet", w, x -> x.as(person, 0), Due.BEYOND);
            w = w.then(x -> x.person(person % 4, person % 6, 1000 * person));
        }
        Due.refuses("one more than 10", w, x -> x.person(0, 0, 0), Due.FULL);
        Due.refuses("no number 10", w, x -> x.as(10, 0), Due.BEYOND);
        Due.bounds("kind", World.parishes(1), (x, v) -> x.person(v, 0, 0), 0, 3, 0);
        int[] over = {1, 1 + 2, 1 + 4, 1 + 4 + 8};
        for (int i = 0; i < 16; i++) {
            int person = i / 4;
            int kind = i % 4;
            boolean isOne = (over[person] >> kind & 1) == 1;
            Due.answers("as(" + person + ", " + kind + ")", w, x -> x.as(person, kind), isOne ? person : Due.KIND);
        }
        for (int p = 1; p < 10; p++) {
            int person = p;
            Due.answers("the day ahead of birth: " + p, w, x -> x.own(person, 1000 * person - 1, 0), Due.NONE);
            Due.answers("the day of birth: " + p, w, x -> x.own(person, 1000 * person, 0), p % 6);
        }
    }

    private static void rings() {
        World w = World.parishes(1).each(8, (x, p) -> x.person(p % 4, 0, 0));
        for (int i = 0; i < 64; i++) {
            int one = i / 8;
            int other = i % 8;
            int kind = one % 4;
            int wife = kind != 1 ? Due.KIND : one == other ? Due.RING : -1;
            int child = kind != 2 ? Due.KIND : one == other ? Due.RING : -1;
            Due.answers(one + " has the HUSBAND " + other, w, x -> x.husband(one, other, 0), wife);
            Due.answers(one + " has the FATHER " + other, w, x -> x.father(one, other), child);
        }
        // 1 WIFE by 2 CHILD by 5 WIFE by 6 CHILD
        World line = w.then(x -> x.husband(1, 2, 3)).then(x -> x.father(2, 5)).then(x -> x.husband(5, 6, 4));
        for (int p = 0; p < 8; p++) {
            int other = p;
            boolean isIn = p == 1 || p == 2 || p == 5 || p == 6;
            Due.answers("the end of the line has " + p, line, x -> x.father(6, other), isIn ? Due.RING : -1);
            boolean isBehind = p == 1 || p == 2;
            Due.answers("the middle has " + p, line, x -> x.father(2, other), isBehind ? Due.RING : 5);
        }
        Due.refuses("a RING changes nothing", line, x -> x.father(6, 1), Due.RING);
        Due.refuses("a RING by a HUSBAND changes nothing", line, x -> x.husband(5, 1, 9), Due.RING);
        Due.answers("none opens the line", line.then(x -> x.father(2, -1)), x -> x.father(6, 1), -1);
        Due.answers("none opens the line by a HUSBAND", line.then(x -> x.husband(5, -1, 0)), x -> x.father(6, 1), -1);
    }

    private static void facts() {
        World w = FOUR;
        for (int f = 0; f < 24; f++) {
            int fact = f;
            Due.answers("the number " + f, w, x -> x.fact(1, 0, 0, 0, 0, 0, 0), f);
            Due.refuses("no number " + f + " yet", w, x -> x.doubt(fact, false), Due.BEYOND);
            w = w.then(x -> x.fact(fact % 2, fact % 4, fact % 2, fact, fact, fact + 1, fact));
        }
        Due.refuses("one more than 24", w, x -> x.fact(0, 0, 0, 0, 0, 0, 0), Due.FULL);
        Due.refuses("no number 24", w, x -> x.doubt(24, true), Due.BEYOND);
        Due.bounds("pounds", FOUR, (x, v) -> x.fact(1, 0, 0, v, 0, 0, 0), 0, 99, 0);
        for (int k = 0; k <= 1; k++) {
            int kind = k;
            Due.answers("the first is the second", FOUR, x -> x.fact(kind, 0, 0, 0, 77, 77, 0), 0);
            Due.refuses("the first is above the second", FOUR, x -> x.fact(kind, 0, 0, 0, 78, 77, 0), Due.SIZE);
        }
        for (int f = 0; f < 8; f++) {
            int fact = 23 - f;
            Due.answers("DOUBTED, the number " + (f + 1), w, x -> x.doubt(fact, true), 1);
            w = w.then(x -> x.doubt(fact, true));
        }
        Due.refuses("one DOUBTED more than 8", w, x -> x.doubt(0, true), Due.FULL);
        Due.answers("8 of all", w, x -> x.told(6), 8);
    }

    private static void laws() {
        World w = World.people();
        for (int l = 0; l < 12; l++) {
            int law = l;
            Due.answers("the number " + l, w, x -> x.law(law % 5, 0, 0, 0), l);
            Due.refuses("no number " + l + " yet", w, x -> x.ends(law, 9), Due.BEYOND);
            w = w.then(x -> x.law(law % 5, law, 0, law));
        }
        Due.refuses("one more than 12", w, x -> x.law(0, 0, 0, 0), Due.FULL);
        Due.refuses("no number 12", w, x -> x.ends(12, 9), Due.BEYOND);
        Due.bounds("kind", World.empty(), (x, v) -> x.law(v, 0, 0, 0), 0, 4, 0);
        Due.answers("the first is the second", FOUR, x -> x.law(0, 0, 77, 77), 0);
        Due.refuses("the first is above the second", FOUR, x -> x.law(0, 0, 78, 77), Due.SIZE);
        // a gain, or another to go by, on day 50, by a law of each kind, whose days are from 49 to 51
        World lives = World.parishes(2).then(x -> x.person(0, 1, 50)).then(x -> x.person(0, 0, 0))
                .then(x -> x.person(1, 0, 0)).then(x -> x.person(2, 0, 50)).then(x -> x.fact(0, 1, 1, 0, 45, 50, 0))
                .then(x -> x.fact(1, 2, 1, 5, 50, 55, 0));
        int[][] spans = {{50, 50, 1}, {49, 50, 1}, {50, 51, 1}, {0, 9999, 1}, {0, 49, 0}, {51, 9999, 0}};
        for (int[] s : spans) {
            boolean rules = s[2] == 1;
            String what = " from " + s[0] + " to " + s[1];
            Due.answers("BIRTH" + what, lives.then(x -> x.law(0, 0, s[0], s[1])),
                    x -> x.own(0, 99, 0), rules ? 1 : Due.NONE);
            Due.answers("SERVICE" + what, lives.then(x -> x.law(1, 6, s[0], s[1])),
                    x -> x.own(1, 99, 0), rules ? 1 : Due.NONE);
            Due.answers("RENT" + what, lives.then(x -> x.law(2, 5, s[0], s[1])),
                    x -> x.own(2, 99, 0), rules ? 1 : Due.NONE);
            World by = lives.then(x -> x.law(2, 5, 50, 50)).then(x -> x.person(0, 0, 0))
                    .then(x -> x.fact(1, 4, 0, 5, 50, 50, 0));
            World wife = by.then(x -> x.husband(2, 4, 50)).then(x -> x.law(3, 0, s[0], s[1]));
            Due.answers("MARRIAGE" + what, wife, x -> x.through(2, 99, 0), rules ? 4 : 2);
            World child = by.then(x -> x.father(3, 4)).then(x -> x.law(4, 50, s[0], s[1]));
            Due.answers("FATHER" + what, child, x -> x.through(3, 99, 0), rules ? 4 : 3);
        }
    }

    private static void numbers() {
        int[] numbered = {1, 2, 4};
        for (int kind : numbered) {
            Due.bounds("of kind " + kind, FOUR, (x, v) -> x.law(kind, v, 0, 9999), 0, 9999, 0);
        }
        int[] any = {Due.LEAST, -1, 0, 9999, 10000, Due.MOST};
        for (int number : any) {
            World birth = FOUR.then(x -> x.law(0, number, 0, 9999));
            Due.answers("BIRTH of " + number, birth, x -> x.own(1, 10, 0), 1);
            World wife = birth.then(x -> x.law(3, number, 0, 9999)).then(x -> x.husband(1, 0, 20));
            Due.answers("MARRIAGE of " + number, wife, x -> x.settlement(1, 20, 0), 0);
        }
    }

    private static void sheets() {
        for (int s = 0; s < 4; s++) {
            int sheet = s;
            Due.refuses("MISSING at first", World.empty(), x -> x.put(sheet, 0, 0), Due.MISSING);
        }
        Due.bounds("the number of a sheet", World.empty(), (x, v) -> x.sheet(v, 16, 60), 0, 3, 60);
        int[] bits = {8, 16, 32};
        for (int b : bits) {
            Due.answers("60 numbers of " + b, World.empty(), x -> x.sheet(0, b, 60), 60);
            Due.refuses("61 numbers of " + b, World.empty(), x -> x.sheet(0, b, 61), Due.BEYOND);
            World full = World.empty().then(x -> x.sheet(0, b, 60));
            Due.answers("the last number", full, x -> x.put(0, 59, 1), 0);
            Due.refuses("one behind the last", full, x -> x.put(0, 60, 1), Due.BEYOND);
            Due.refuses(b - 1 + " bits", full, x -> x.sheet(0, b - 1, 60), Due.BEYOND);
            Due.refuses(b + 1 + " bits", full, x -> x.sheet(0, b + 1, 60), Due.BEYOND);
        }
    }
}
