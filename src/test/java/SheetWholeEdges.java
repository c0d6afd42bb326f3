import java.util.Arrays;

/** The sentences of promises 29 to 35: sheets, the whole. */
final class SheetWholeEdges {
    private static final World NONE = World.empty();
    // 0 and 1 of 8 bits, five numbers 11 to 15 and three 0; 2 of 16 bits, five numbers; 3 MISSING.
    private static final World SHEETS = NONE.then(x -> x.sheet(0, 8, 5)).then(x -> x.sheet(1, 8, 3))
            .then(x -> x.sheet(2, 16, 5)).each(5, (x, i) -> x.put(0, i, 11 + i));

    private SheetWholeEdges() {
    }

    static void tell(Sentences all) {
        all.test(29, "A sheet has n numbers, all 0, of 8, 16 or 32 bits; bits 0: it is MISSING: n (0).",
                SheetWholeEdges::sheet);
        all.test(29, "BEYOND: no such sheet, or bits.", SheetWholeEdges::sheetBeyond);
        all.test(29, "SIZE: n is below 0.", SheetWholeEdges::sheetSize);
        all.test(29, "BEYOND: n is above 60.", SheetWholeEdges::sheetTooLong);
        all.test(30, "Number i of a sheet becomes v (its lowest bits): 0.", SheetWholeEdges::put);
        all.test(30, "BEYOND: no such sheet.", SheetWholeEdges::putNoSheet);
        all.test(30, "MISSING.", SheetWholeEdges::putMissing);
        all.test(30, "BEYOND: no such number.", SheetWholeEdges::putNoNumber);
        all.test(31, "n numbers of a sheet from one on come to another one from one on: n.", SheetWholeEdges::copy);
        all.test(31, "BEYOND: no such sheet (either).", SheetWholeEdges::copyNoSheet);
        all.test(31, "MISSING: one is.", SheetWholeEdges::copyMissing);
        all.test(31, "KIND: they are not of as many bits.", SheetWholeEdges::copyKind);
        all.test(31, "BEYOND: one has not so many, or from, to or n is below 0.", SheetWholeEdges::copyBeyond);
        all.test(32, "PRICES are read off a sheet, from week 0 on (weeks for which it has none stay; one that is not "
                + "1 to 99 tells MISSING): how many came that are not MISSING.", SheetWholeEdges::read);
        all.test(32, "BEYOND: no such sheet.", SheetWholeEdges::readNoSheet);
        all.test(32, "MISSING: it is.", SheetWholeEdges::readMissing);
        all.test(33, "All (but sheets, and what told(5) counts) is kept in place of what was: how many persons.",
                SheetWholeEdges::keep);
        all.test(34, "All is as it was kept (which stays): how many persons.", SheetWholeEdges::back);
        all.test(34, "NONE: nothing is kept.", SheetWholeEdges::backNone);
        all.test(35, "0 parishes, 1 persons, 2 facts, 3 laws, 4 ORDERS, 5 how many acts answered a finding ever "
                + "(this one, too, if it does), 6 DOUBTED facts.", SheetWholeEdges::told);
        all.test(35, "BEYOND: another what.", SheetWholeEdges::toldBeyond);
    }

    /** What a sheet holds, by the PRICES that are read off it, and how many weeks from 0 on it has. */
    private static void holds(String what, World world, int s, int... due) {
        PoorDesk x = world.make();
        for (int w = 0; w < 60; w++) {
            x.price(w, 98);
        }
        x.read(s);
        for (int w = 0; w < 60; w++) {
            Due.is(what + ": number " + w, x.price(w, 0), w < due.length ? due[w] : 98);
        }
    }

    private static void sheet() {
        int[] bits = {8, 16, 32};
        for (int b : bits) {
            for (int s = 0; s < 4; s++) {
                int sheet = s;
                Due.answers("60 numbers of " + b, NONE, x -> x.sheet(sheet, b, 60), 60);
                Due.answers("no number of " + b, NONE, x -> x.sheet(sheet, b, 0), 0);
                holds("60 numbers of " + b, NONE.then(x -> x.sheet(sheet, b, 60)), s, new int[60]);
                holds("no number of " + b, NONE.then(x -> x.sheet(sheet, b, 0)), s);
                Due.answers("no number, but not MISSING", NONE.then(x -> x.sheet(sheet, b, 0)), x -> x.read(sheet), 0);
            }
            World anew = SHEETS.then(x -> x.sheet(0, b, 4));
            holds("all 0 again", anew, 0, 0, 0, 0, 0);
            holds("longer than it was", SHEETS.then(x -> x.sheet(0, b, 7)), 0, 0, 0, 0, 0, 0, 0, 0);
        }
        Due.answers("bits 0, n 0", SHEETS, x -> x.sheet(0, 0, 0), 0);
        Due.answers("bits 0, n 1", SHEETS, x -> x.sheet(0, 0, 1), 0);
        Due.answers("bits 0, n 60", SHEETS, x -> x.sheet(0, 0, 60), 0);
        Due.answers("it is MISSING", SHEETS.then(x -> x.sheet(0, 0, 5)), x -> x.read(0), Due.MISSING);
        Due.answers("it was MISSING", NONE, x -> x.sheet(0, 0, 5), 0);
        holds("the others stay", SHEETS.then(x -> x.sheet(1, 0, 5)), 0, 11, 12, 13, 14, 15);
        World back = SHEETS.then(x -> x.sheet(0, 0, 0)).then(x -> x.sheet(0, 8, 5));
        holds("all 0 behind MISSING", back, 0, 0, 0, 0, 0, 0);
    }

    private static void sheetBeyond() {
        Due.bounds("sheet", SHEETS, (x, v) -> x.sheet(v, 8, 7), 0, 3, 7);
        Due.bounds("sheet, bits 0", SHEETS, (x, v) -> x.sheet(v, 0, 7), 0, 3, 0);
        Due.beyond("bits", SHEETS, (x, v) -> x.sheet(0, v, 5),
                -1, 1, 7, 9, 15, 17, 24, 31, 33, 64, -8, Due.LEAST, Due.MOST);
        Due.beyond("with SIZE: sheet", SHEETS, (x, v) -> x.sheet(v, 8, -1), -1, 4);
        Due.beyond("with SIZE: bits", SHEETS, (x, v) -> x.sheet(0, v, -1), -1, 1, 7, 9, 33);
        Due.beyond("with n above 60: bits", SHEETS, (x, v) -> x.sheet(0, v, 61), -1, 1, 7, 9, 33);
        Due.refuses("sheet and bits", SHEETS, x -> x.sheet(4, 7, 5), Due.BEYOND);
    }

    private static void sheetSize() {
        int[] bits = {0, 8, 16, 32};
        for (int b : bits) {
            Due.refuses("n -1 of " + b, SHEETS, x -> x.sheet(0, b, -1), Due.SIZE);
            Due.refuses("n least of " + b, SHEETS, x -> x.sheet(0, b, Due.LEAST), Due.SIZE);
            Due.refuses("of a MISSING one, n -1 of " + b, SHEETS, x -> x.sheet(3, b, -1), Due.SIZE);
            Due.answers("n 0 of " + b, SHEETS, x -> x.sheet(0, b, 0), 0);
        }
    }

    private static void sheetTooLong() {
        int[] bits = {0, 8, 16, 32};
        for (int b : bits) {
            Due.answers("n 60 of " + b, SHEETS, x -> x.sheet(0, b, 60), b == 0 ? 0 : 60);
            Due.refuses("n 61 of " + b, SHEETS, x -> x.sheet(0, b, 61), Due.BEYOND);
            Due.refuses("n most of " + b, SHEETS, x -> x.sheet(0, b, Due.MOST), Due.BEYOND);
            Due.refuses("of a MISSING one, n 61 of " + b, SHEETS, x -> x.sheet(3, b, 61), Due.BEYOND);
        }
    }

    private static void put() {
        // v, and the PRICE that is read of it from 8, 16 and 32 bits
        int[][] rows = {
            {0, 0, 0, 0}, {1, 1, 1, 1}, {99, 99, 99, 99}, {100, 0, 0, 0}, {127, 0, 0, 0}, {128, 0, 0, 0},
            {255, 0, 0, 0}, {256, 0, 0, 0}, {257, 1, 0, 0}, {355, 99, 0, 0}, {356, 0, 0, 0}, {-1, 0, 0, 0},
            {-157, 99, 0, 0}, {-156, 0, 0, 0}, {-255, 1, 0, 0}, {-256, 0, 0, 0}, {65535, 0, 0, 0}, {65536, 0, 0, 0},
            {65537, 1, 1, 0}, {65635, 99, 99, 0}, {65636, 0, 0, 0}, {-65535, 1, 1, 0}, {-65437, 99, 99, 0},
            {Due.LEAST, 0, 0, 0}, {Due.LEAST + 99, 99, 99, 0}, {Due.MOST, 0, 0, 0}, {(5 << 16) + (3 << 8) + 7, 7, 0, 0},
        };
        for (int[] row : rows) {
            for (int b = 0; b < 3; b++) {
                int bits = 8 << b;
                World w = NONE.then(x -> x.sheet(0, bits, 3)).then(x -> x.put(0, 0, 5)).then(x -> x.put(0, 2, 6));
                Due.answers("put(0, 1, " + row[0] + ")", w, x -> x.put(0, 1, row[0]), 0);
                holds(row[0] + " of " + bits, w.then(x -> x.put(0, 1, row[0])), 0, 5, row[b + 1], 6);
            }
        }
        World last = NONE.then(x -> x.sheet(3, 8, 60)).each(60, (x, i) -> x.put(3, i, i + 1));
        int[] due = new int[60];
        for (int i = 0; i < 60; i++) {
            due[i] = i + 1;
        }
        holds("60 numbers", last, 3, due);
    }

    private static void putNoSheet() {
        World all = NONE.each(4, (x, s) -> x.sheet(s, 8, 2));
        Due.bounds("sheet", all, (x, v) -> x.put(v, 1, 9), 0, 3, 0);
        Due.beyond("with MISSING (all are): sheet", NONE, (x, v) -> x.put(v, 0, 0), -1, 4, Due.LEAST, Due.MOST);
        Due.beyond("with no such number: sheet", all, (x, v) -> x.put(v, 2, 0), -1, 4);
    }

    private static void putMissing() {
        for (int s = 0; s < 4; s++) {
            int sheet = s;
            Due.refuses("at first", NONE, x -> x.put(sheet, 0, 0), Due.MISSING);
            Due.refuses("with no such number: 60", NONE, x -> x.put(sheet, 60, 0), Due.MISSING);
            Due.refuses("with no such number: -1", NONE, x -> x.put(sheet, -1, 0), Due.MISSING);
        }
        World gone = SHEETS.then(x -> x.sheet(0, 0, 5));
        Due.refuses("MISSING again", gone, x -> x.put(0, 0, 1), Due.MISSING);
        Due.refuses("MISSING again, with no such number", gone, x -> x.put(0, 5, 1), Due.MISSING);
    }

    private static void putNoNumber() {
        Due.bounds("number of five", SHEETS, (x, v) -> x.put(0, v, 9), 0, 4, 0);
        Due.bounds("number of sixty", NONE.then(x -> x.sheet(1, 32, 60)), (x, v) -> x.put(1, v, 9), 0, 59, 0);
        Due.beyond("number of none", NONE.then(x -> x.sheet(2, 16, 0)), (x, v) -> x.put(2, v, 9), 0, -1);
        World less = SHEETS.then(x -> x.sheet(0, 8, 2));
        Due.refuses("number 2 of two, where there were five", less, x -> x.put(0, 2, 9), Due.BEYOND);
    }

    private static void copy() {
        Due.answers("all", SHEETS, x -> x.copy(1, 0, 0, 0, 3), 3);
        holds("all", SHEETS.then(x -> x.copy(1, 0, 0, 0, 3)), 0, 0, 0, 0, 14, 15);
        Due.answers("none", SHEETS, x -> x.copy(0, 0, 1, 0, 0), 0);
        holds("none", SHEETS.then(x -> x.copy(0, 0, 1, 0, 0)), 1, 0, 0, 0);
        Due.answers("none from behind the last", SHEETS, x -> x.copy(0, 5, 1, 3, 0), 0);
        holds("the first to the last", SHEETS.then(x -> x.copy(0, 0, 1, 2, 1)), 1, 0, 0, 11);
        holds("the last to the first", SHEETS.then(x -> x.copy(0, 4, 1, 0, 1)), 1, 15, 0, 0);
        holds("from which they came", SHEETS.then(x -> x.copy(0, 4, 1, 0, 1)), 0, 11, 12, 13, 14, 15);
        holds("up in one sheet", SHEETS.then(x -> x.copy(0, 0, 0, 1, 4)), 0, 11, 11, 12, 13, 14);
        holds("up by two in one sheet", SHEETS.then(x -> x.copy(0, 0, 0, 2, 3)), 0, 11, 12, 11, 12, 13);
        holds("down in one sheet", SHEETS.then(x -> x.copy(0, 1, 0, 0, 4)), 0, 12, 13, 14, 15, 15);
        holds("to itself", SHEETS.then(x -> x.copy(0, 0, 0, 0, 5)), 0, 11, 12, 13, 14, 15);
        World long60 = NONE.then(x -> x.sheet(0, 32, 60)).then(x -> x.sheet(1, 32, 60)).then(x -> x.put(0, 59, 7));
        Due.answers("sixty", long60, x -> x.copy(0, 0, 1, 0, 60), 60);
        int[] due = new int[60];
        due[59] = 7;
        holds("sixty", long60.then(x -> x.copy(0, 0, 1, 0, 60)), 1, due);
    }

    private static void copyNoSheet() {
        Due.beyond("from which", SHEETS, (x, v) -> x.copy(v, 0, 0, 0, 1), -1, 4, Due.LEAST, Due.MOST);
        Due.beyond("to which", SHEETS, (x, v) -> x.copy(0, 0, v, 0, 1), -1, 4, Due.LEAST, Due.MOST);
        World all = NONE.each(4, (x, s) -> x.sheet(s, 8, 2));
        Due.answers("the first and the last", all, x -> x.copy(0, 0, 3, 0, 2), 2);
        Due.answers("the last and the first", all, x -> x.copy(3, 0, 0, 0, 2), 2);
        Due.beyond("with MISSING: from which", SHEETS, (x, v) -> x.copy(v, 0, 3, 0, 1), -1, 4);
        Due.beyond("with MISSING: to which", SHEETS, (x, v) -> x.copy(3, 0, v, 0, 1), -1, 4);
        Due.beyond("with n below 0: to which", SHEETS, (x, v) -> x.copy(0, 0, v, 0, -1), -1, 4);
        Due.refuses("both", SHEETS, x -> x.copy(4, 0, -1, 0, 1), Due.BEYOND);
    }

    private static void copyMissing() {
        Due.refuses("from which", SHEETS, x -> x.copy(3, 0, 0, 0, 0), Due.MISSING);
        Due.refuses("to which", SHEETS, x -> x.copy(0, 0, 3, 0, 0), Due.MISSING);
        Due.refuses("both", SHEETS, x -> x.copy(3, 0, 3, 0, 0), Due.MISSING);
        Due.refuses("both of all", NONE, x -> x.copy(0, 0, 1, 0, 0), Due.MISSING);
        Due.refuses("with n below 0", SHEETS, x -> x.copy(3, 0, 0, 0, -1), Due.MISSING);
        Due.refuses("with from below 0", SHEETS, x -> x.copy(0, -1, 3, 0, 1), Due.MISSING);
        Due.refuses("with not so many", SHEETS, x -> x.copy(0, 0, 3, 0, 6), Due.MISSING);
        World sixteen = SHEETS.then(x -> x.sheet(0, 16, 5)).then(x -> x.sheet(0, 0, 5));
        Due.refuses("one that had as many bits", sixteen, x -> x.copy(0, 0, 2, 0, 1), Due.MISSING);
        Due.refuses("one that had other bits", sixteen, x -> x.copy(1, 0, 0, 0, 1), Due.MISSING);
    }

    private static void copyKind() {
        int[] bits = {8, 16, 32};
        for (int b : bits) {
            for (int c : bits) {
                World w = NONE.then(x -> x.sheet(0, b, 4)).then(x -> x.sheet(1, c, 4));
                if (b == c) {
                    Due.answers(b + " and " + c, w, x -> x.copy(0, 0, 1, 0, 4), 4);
                } else {
                    Due.refuses(b + " and " + c, w, x -> x.copy(0, 0, 1, 0, 4), Due.KIND);
                    Due.refuses("none of " + b + " and " + c, w, x -> x.copy(0, 0, 1, 0, 0), Due.KIND);
                    Due.refuses("with not so many", w, x -> x.copy(0, 0, 1, 0, 5), Due.KIND);
                    Due.refuses("with from below 0", w, x -> x.copy(0, -1, 1, 0, 1), Due.KIND);
                    Due.refuses("with to below 0", w, x -> x.copy(0, 0, 1, -1, 1), Due.KIND);
                    Due.refuses("with n below 0", w, x -> x.copy(0, 0, 1, 0, -1), Due.KIND);
                }
            }
        }
    }

    private static void copyBeyond() {
        // 0 has five numbers, 1 has three
        Due.bounds("n of all in both", SHEETS, (x, v) -> x.copy(0, 0, 1, 0, v), 0, 3, 0, 3);
        Due.bounds("n of the shorter one", SHEETS, (x, v) -> x.copy(1, 0, 0, 0, v), 0, 3, 0, 3);
        Due.bounds("n of the last two", SHEETS, (x, v) -> x.copy(0, 3, 1, 0, v), 0, 2, 0, 2);
        Due.bounds("from of two", SHEETS, (x, v) -> x.copy(0, v, 1, 0, 2), 0, 3, 2);
        Due.bounds("to of two", SHEETS, (x, v) -> x.copy(0, 0, 1, v, 2), 0, 1, 2);
        Due.bounds("from of none", SHEETS, (x, v) -> x.copy(0, v, 1, 0, 0), 0, 5, 0);
        Due.bounds("to of none", SHEETS, (x, v) -> x.copy(0, 0, 1, v, 0), 0, 3, 0);
        Due.bounds("n in one sheet, up", SHEETS, (x, v) -> x.copy(0, 0, 0, 2, v), 0, 3, 0, 3);
        Due.refuses("from and n, whose sum wraps", SHEETS, x -> x.copy(0, Due.MOST, 1, 0, Due.MOST), Due.BEYOND);
        Due.refuses("to and n, whose sum wraps", SHEETS, x -> x.copy(0, 0, 1, Due.MOST, 1), Due.BEYOND);
        Due.refuses("from below 0, the sum is not", SHEETS, x -> x.copy(0, -1, 1, 0, 2), Due.BEYOND);
        Due.refuses("to below 0, the sum is not", SHEETS, x -> x.copy(0, 0, 1, -1, 2), Due.BEYOND);
        Due.refuses("n below 0, the sums are not", SHEETS, x -> x.copy(0, 2, 1, 2, -1), Due.BEYOND);
        World none = NONE.then(x -> x.sheet(0, 8, 0)).then(x -> x.sheet(1, 8, 0));
        Due.bounds("n of no numbers", none, (x, v) -> x.copy(0, 0, 1, 0, v), 0, 0, 0);
    }

    private static void read() {
        World w = NONE.then(x -> x.sheet(0, 32, 7));
        int[] numbers = {0, 1, 99, 100, -1, Due.LEAST, Due.MOST};
        World full = w.each(7, (x, i) -> x.put(0, i, numbers[i]));
        Due.answers("how many came", full, x -> x.read(0), 2);
        holds("0, 1, 99, 100, -1, least, most", full, 0, 0, 1, 99, 0, 0, 0, 0);
        Due.answers("again", full.then(x -> x.read(0)), x -> x.read(0), 2);
        Due.answers("no numbers", NONE.then(x -> x.sheet(0, 8, 0)), x -> x.read(0), 0);
        World stay = NONE.then(x -> x.price(0, 7)).then(x -> x.price(59, 8));
        Due.answers("week 0 stays", stay.then(x -> x.sheet(0, 8, 0)).then(x -> x.read(0)), x -> x.price(0, 0), 7);
        Due.answers("week 59 stays", stay.then(x -> x.sheet(0, 8, 59)).then(x -> x.read(0)), x -> x.price(59, 0), 8);
        Due.answers("week 0 goes", stay.then(x -> x.sheet(0, 8, 1)).then(x -> x.read(0)), x -> x.price(0, 0), 0);
        Due.answers("week 59 goes", stay.then(x -> x.sheet(0, 8, 60)).then(x -> x.read(0)), x -> x.price(59, 0), 0);
        World sixty = NONE.then(x -> x.sheet(3, 16, 60)).each(60, (x, i) -> x.put(3, i, 40 + i));
        Due.answers("sixty, from 40 to 99", sixty, x -> x.read(3), 60);
        Due.answers("the last of them", sixty.then(x -> x.read(3)), x -> x.price(59, 0), 99);
        Due.answers("with one of 100", sixty.then(x -> x.put(3, 59, 100)), x -> x.read(3), 59);
        holds("the sheet stays", full.then(x -> x.read(0)), 0, 0, 1, 99, 0, 0, 0, 0);
    }

    private static void readNoSheet() {
        World all = NONE.each(4, (x, s) -> x.sheet(s, 8, 2)).then(x -> x.put(0, 1, 4)).then(x -> x.put(3, 0, 5));
        Due.bounds("sheet", all, (x, v) -> x.read(v), 0, 3, 1);
        Due.beyond("with MISSING (all are): sheet", NONE, (x, v) -> x.read(v), -1, 4, Due.LEAST, Due.MOST);
    }

    private static void readMissing() {
        for (int s = 0; s < 4; s++) {
            int sheet = s;
            Due.refuses("at first", NONE, x -> x.read(sheet), Due.MISSING);
        }
        World gone = SHEETS.then(x -> x.price(0, 9)).then(x -> x.sheet(0, 0, 5));
        Due.refuses("MISSING again", gone, x -> x.read(0), Due.MISSING);
        Due.answers("PRICES stay", gone, x -> x.price(0, 0), 9);
    }

    private static void keep() {
        Due.answers("no person", NONE, x -> x.keep(), 0);
        Due.answers("four persons", World.people(), x -> x.keep(), 4);
        Due.answers("ten persons", World.full(), x -> x.keep(), 10);
        World more = World.people().then(x -> x.keep()).then(x -> x.person(0, 0, 0));
        Due.answers("in place of what was: five", more, x -> x.keep(), 5);
        Due.answers("in place of what was: back()", more.then(x -> x.keep()), x -> x.back(), 5);
        Due.answers("how many findings it has", more, x -> x.told(5), 0);
        isKept("something of all", World.some());
        isKept("all is full", World.full());
        isKept("nothing", NONE);
        World sheets = SHEETS.then(x -> x.keep()).then(x -> x.put(0, 0, 77)).then(x -> x.sheet(3, 32, 1));
        holds("sheets are not kept", sheets.then(x -> x.back()), 0, 77, 12, 13, 14, 15);
        holds("new sheets stay", sheets.then(x -> x.back()), 3, 0);
    }

    /** A desk that was kept, changed in every way and taken back looks as it did, but for its sheets. */
    private static void isKept(String what, World world) {
        int sheets = 4;
        for (int look = 0; look < Looks.COUNT - sheets; look++) {
            PoorDesk x = world.make();
            x.keep();
            change(x);
            x.back();
            int at = Arrays.mismatch(Looks.see(look, x), world.then(y -> y.keep()).seen(look));
            Due.holds(what + " is kept: look " + look + " differs at " + at, at < 0);
        }
    }

    private static void change(PoorDesk x) {
        for (int f = 0; f < 3; f++) {
            x.forget();
        }
        x.parish(9);
        x.parish(8);
        x.miles(0, 1, 55);
        x.person(1, 0, 3);
        x.person(2, 1, 3);
        x.husband(1, 0, 7);
        x.father(2, -1);
        for (int f = 0; f < 3; f++) {
            x.fact(f % 2, f, 1, 0, 0, 9, 9000);
        }
        x.doubt(0, true);
        x.doubt(1, true);
        x.law(0, 0, 0, 9999);
        x.ends(0, 50);
        x.order(0, 0, 1, 5);
        x.appeal(0, 260);
        x.appeal(1, 304);
        x.set(0, 5);
        x.set(1, 9);
        x.list(0, 1, 1);
        x.earns(0, 500);
        x.price(3, 71);
        x.sheet(0, 8, 60);
        x.read(0);
    }

    private static void back() {
        World w = World.people().then(x -> x.keep()).then(x -> x.person(0, 0, 0));
        Due.answers("how many persons", w, x -> x.back(), 4);
        Due.answers("it stays", w.then(x -> x.back()), x -> x.back(), 4);
        Due.answers("it stays, all the same", w.then(x -> x.back()).then(x -> x.parish(3)).then(x -> x.back()),
                x -> x.told(0), 2);
        Due.answers("nothing was kept in it", NONE.then(x -> x.keep()).then(x -> x.parish(1)), x -> x.back(), 0);
        World empty = NONE.then(x -> x.keep()).each(6, (x, p) -> x.parish(1)).then(x -> x.back());
        Due.answers("the empty one", empty, x -> x.told(0), 0);
        Due.answers("a parish behind it", empty, x -> x.parish(1), 0);
        World full = World.full().then(x -> x.forget()).then(x -> x.back());
        Due.answers("the full one", full, x -> x.told(2), 24);
        Due.answers("a fact behind it", full, x -> x.fact(0, 0, 0, 0, 0, 0, 0), Due.FULL);
        Due.answers("8 are DOUBTED behind it", full, x -> x.doubt(1, true), Due.FULL);
        PoorDesk x = NONE.then(y -> y.keep()).make();
        x.parish(-1);
        x.back();
        Due.is("what told(5) counts goes on", x.told(5), 1);
    }

    private static void backNone() {
        Due.refuses("a new one", NONE, x -> x.back(), Due.NONE);
        Due.refuses("one with persons", World.people(), x -> x.back(), Due.NONE);
        Due.answers("an empty one is kept", NONE.then(x -> x.keep()), x -> x.back(), 0);
        PoorDesk x = new PoorDesk();
        x.back();
        Due.is("asked again", x.back(), Due.NONE);
        Due.is("kept then", x.keep(), 0);
        Due.is("and back", x.back(), 0);
    }

    private static void told() {
        int[] full = {6, 10, 24, 12, 20, 0, 8};
        int[] some = {4, 8, 5, 6, 3, 0, 3};
        for (int what = 0; what <= 6; what++) {
            int asked = what;
            Due.answers("nothing: told(" + what + ")", NONE, x -> x.told(asked), 0);
            Due.answers("all: told(" + what + ")", World.full(), x -> x.told(asked), full[what]);
            Due.answers("some: told(" + what + ")", World.some(), x -> x.told(asked), some[what]);
        }
        PoorDesk x = new PoorDesk();
        for (int n = 1; n <= 500; n++) {
            Due.is("a finding", x.told(n % 2 == 0 ? 7 : -1), Due.BEYOND);
        }
        Due.is("this one, too", x.told(5), 500);
        Due.is("told(5) is none itself", x.told(5), 500);
    }

    private static void toldBeyond() {
        Due.bounds("what", World.full(), (x, v) -> x.told(v), 0, 6, 6, 8);
        Due.beyond("what of nothing", NONE, (x, v) -> x.told(v), -1, 7);
    }
}
