/** Promises 29 to 35: sheets, the whole. */
public final class SheetWholeTest {
    public static void main(String[] args) {
        sheet();
        put();
        copy();
        copyFindings();
        read();
        keepAndBack();
        keepsEverything();
        backWithFewer();
        whatIsGoneDoesNotCount();
        forgottenFactsComeBack();
        sheetsAreNotKept();
        told();
        toldOfFindings();
        Due.end();
    }

    private static void sheet() {
        PoorDesk x = new PoorDesk();
        Due.is(29, "sheet(-1, 8, 1)", x.sheet(-1, 8, 1), Due.BEYOND);
        Due.is(29, "sheet(4, 8, 1)", x.sheet(4, 8, 1), Due.BEYOND);
        int[] wrongBits = {-8, 1, 4, 7, 9, 24, 31, 33, 64, Due.LEAST};
        for (int bits : wrongBits) {
            Due.is(29, "sheet(0, " + bits + ", 1)", x.sheet(0, bits, 1), Due.BEYOND);
        }
        Due.is(29, "sheet(0, 7, -1)", x.sheet(0, 7, -1), Due.BEYOND);
        Due.is(29, "sheet(0, 8, -1)", x.sheet(0, 8, -1), Due.SIZE);
        Due.is(29, "sheet(0, 8, least)", x.sheet(0, 8, Due.LEAST), Due.SIZE);
        Due.is(29, "sheet(0, 8, 61)", x.sheet(0, 8, 61), Due.BEYOND);
        Due.is(29, "sheet(0, 0, -1)", x.sheet(0, 0, -1), Due.SIZE);
        Due.is(29, "sheet(0, 0, 61)", x.sheet(0, 0, 61), Due.BEYOND);
        Due.is(29, "read(0)", x.read(0), Due.MISSING);
        Due.is(29, "sheet(0, 8, 60)", x.sheet(0, 8, 60), 60);
        Due.is(29, "sheet(1, 16, 0)", x.sheet(1, 16, 0), 0);
        Due.is(29, "sheet(3, 32, 1)", x.sheet(3, 32, 1), 1);
        Due.is(29, "read(1)", x.read(1), 0);
        Due.is(29, "read(2)", x.read(2), Due.MISSING);
        Due.is(29, "put(0, 59, 9)", x.put(0, 59, 9), 0);
        Due.is(29, "read(0)", x.read(0), 1);
        Due.is(29, "sheet(0, 8, 61)", x.sheet(0, 8, 61), Due.BEYOND);
        Due.is(29, "read(0)", x.read(0), 1);
        Due.is(29, "sheet(0, 8, 60): all 0 again", x.sheet(0, 8, 60), 60);
        Due.is(29, "read(0)", x.read(0), 0);
        Due.is(29, "sheet(0, 0, 5)", x.sheet(0, 0, 5), 0);
        Due.is(29, "read(0)", x.read(0), Due.MISSING);
        Due.is(29, "read(3)", x.read(3), 0);
    }

    private static void put() {
        PoorDesk x = new PoorDesk();
        Due.is(30, "put(-1, 0, 0)", x.put(-1, 0, 0), Due.BEYOND);
        Due.is(30, "put(4, 0, 0)", x.put(4, 0, 0), Due.BEYOND);
        Due.is(30, "put(0, -1, 0)", x.put(0, -1, 0), Due.MISSING);
        int[] bits = {8, 16, 32};
        for (int s = 0; s < 3; s++) {
            x.sheet(s, bits[s], 3);
            Due.is(30, "put(" + s + ", 3, 0)", x.put(s, 3, 0), Due.BEYOND);
            Due.is(30, "put(" + s + ", -1, 0)", x.put(s, -1, 0), Due.BEYOND);
            Due.is(30, "put(" + s + ", 0, 2^8 + 5)", x.put(s, 0, (1 << 8) + 5), 0);
            Due.is(30, "put(" + s + ", 1, 2^16 + 6)", x.put(s, 1, (1 << 16) + 6), 0);
            Due.is(30, "put(" + s + ", 2, 99)", x.put(s, 2, 99), 0);
            Due.is(30, "read(" + s + ")", x.read(s), 3 - s);
            Due.is(30, "price(0, 0)", x.price(0, 0), bits[s] > 8 ? 0 : 5);
            Due.is(30, "price(1, 0)", x.price(1, 0), bits[s] > 16 ? 0 : 6);
            Due.is(30, "price(2, 0)", x.price(2, 0), 99);
        }
        x.sheet(0, 8, 1);
        x.put(0, 0, -200);
        Due.is(30, "read(0)", x.read(0), 1);
        Due.is(30, "price(0, 0)", x.price(0, 0), 56);
        x.put(0, 0, 128 + 30);
        Due.is(30, "read(0)", x.read(0), 0);
    }

    private static PoorDesk withNumbers() {
        PoorDesk x = new PoorDesk();
        x.sheet(0, 16, 5);
        x.sheet(1, 16, 3);
        x.sheet(2, 8, 5);
        for (int i = 0; i < 5; i++) {
            x.put(0, i, 10 + i);
        }
        return x;
    }

    private static void pricesAre(int promise, PoorDesk x, int s, int... due) {
        x.read(s);
        for (int i = 0; i < due.length; i++) {
            Due.is(promise, "price(" + i + ", 0)", x.price(i, 0), due[i]);
        }
    }

    private static void copy() {
        PoorDesk x = withNumbers();
        Due.is(31, "copy(0, 1, 1, 1, 2)", x.copy(0, 1, 1, 1, 2), 2);
        pricesAre(31, x, 1, 0, 11, 12);
        pricesAre(31, x, 0, 10, 11, 12, 13, 14);
        Due.is(31, "up in one sheet", x.copy(0, 0, 0, 1, 4), 4);
        pricesAre(31, x, 0, 10, 10, 11, 12, 13);
        Due.is(31, "down in one sheet", x.copy(0, 2, 0, 0, 3), 3);
        pricesAre(31, x, 0, 11, 12, 13, 12, 13);
        Due.is(31, "all", x.copy(1, 0, 0, 0, 3), 3);
        pricesAre(31, x, 0, 0, 11, 12, 12, 13);
        Due.is(31, "none", x.copy(0, 0, 1, 0, 0), 0);
        Due.is(31, "none from the end", x.copy(0, 5, 1, 3, 0), 0);
        pricesAre(31, x, 1, 0, 11, 12);
    }

    private static void copyFindings() {
        PoorDesk x = withNumbers();
        Due.is(31, "from sheet 4", x.copy(4, 0, 0, 0, 1), Due.BEYOND);
        Due.is(31, "from sheet -1", x.copy(-1, 0, 0, 0, 1), Due.BEYOND);
        Due.is(31, "to sheet 4", x.copy(0, 0, 4, 0, 1), Due.BEYOND);
        Due.is(31, "to sheet -1", x.copy(0, 0, -1, 0, 1), Due.BEYOND);
        Due.is(31, "no such sheet, MISSING", x.copy(3, 0, 4, 0, 1), Due.BEYOND);
        Due.is(31, "from a MISSING one", x.copy(3, 0, 0, 0, 1), Due.MISSING);
        Due.is(31, "to a MISSING one", x.copy(0, 0, 3, 0, -1), Due.MISSING);
        Due.is(31, "other bits", x.copy(0, 0, 2, 0, 1), Due.KIND);
        Due.is(31, "other bits, n below 0", x.copy(2, 0, 0, 0, -1), Due.KIND);
        Due.is(31, "from has not so many", x.copy(0, 3, 1, 0, 3), Due.BEYOND);
        Due.is(31, "to has not so many", x.copy(0, 0, 1, 1, 3), Due.BEYOND);
        Due.is(31, "from below 0", x.copy(0, -1, 1, 0, 1), Due.BEYOND);
        Due.is(31, "to below 0", x.copy(0, 0, 1, -1, 1), Due.BEYOND);
        Due.is(31, "n below 0", x.copy(0, 1, 1, 1, -1), Due.BEYOND);
        Due.is(31, "from behind the end", x.copy(0, 6, 1, 0, 0), Due.BEYOND);
        Due.is(31, "to behind the end", x.copy(0, 0, 1, 4, 0), Due.BEYOND);
        Due.is(31, "n most", x.copy(0, 1, 1, 1, Due.MOST), Due.BEYOND);
        Due.is(31, "from most", x.copy(0, Due.MOST, 1, 1, 1), Due.BEYOND);
        Due.is(31, "to most", x.copy(0, 0, 1, Due.MOST, 1), Due.BEYOND);
        Due.is(31, "all least", x.copy(0, Due.LEAST, 1, Due.LEAST, Due.LEAST), Due.BEYOND);
        pricesAre(31, x, 1, 0, 0, 0);
        pricesAre(31, x, 0, 10, 11, 12, 13, 14);
    }

    private static void read() {
        PoorDesk x = new PoorDesk();
        Due.is(32, "read(-1)", x.read(-1), Due.BEYOND);
        Due.is(32, "read(4)", x.read(4), Due.BEYOND);
        Due.is(32, "read(0)", x.read(0), Due.MISSING);
        for (int w = 0; w < 6; w++) {
            x.price(w, 50);
        }
        x.sheet(3, 32, 5);
        x.put(3, 0, 1);
        x.put(3, 1, 99);
        x.put(3, 2, 100);
        x.put(3, 3, -1);
        Due.is(32, "read(3)", x.read(3), 2);
        int[] due = {1, 99, 0, 0, 0, 50};
        for (int w = 0; w < due.length; w++) {
            Due.is(32, "price(" + w + ", 7)", x.price(w, 7), due[w]);
        }
        x.sheet(0, 8, 60);
        for (int w = 0; w < 60; w++) {
            x.put(0, w, w + 1);
        }
        Due.is(32, "read(0)", x.read(0), 60);
        Due.is(32, "price(59, 0)", x.price(59, 0), 60);
        Due.is(32, "read(0) again", x.read(0), 60);
    }

    private static void keepAndBack() {
        PoorDesk x = new PoorDesk();
        Due.is(34, "back()", x.back(), Due.NONE);
        Due.is(33, "keep()", x.keep(), 0);
        x.parish(5);
        x.person(0, 0, 0);
        Due.is(33, "keep()", x.keep(), 1);
        x.person(0, 0, 0);
        x.person(0, 0, 0);
        Due.is(34, "back()", x.back(), 1);
        Due.is(34, "told(1)", x.told(1), 1);
        x.person(0, 0, 0);
        Due.is(34, "back() again: it stays", x.back(), 1);
        x.person(0, 0, 0);
        Due.is(33, "keep() in place of what was", x.keep(), 2);
        x.person(0, 0, 0);
        Due.is(34, "back()", x.back(), 2);
    }

    /** Three parishes, a person of each kind, and something of all that can be kept. */
    private static PoorDesk whole() {
        PoorDesk x = new PoorDesk();
        for (int p = 0; p < 3; p++) {
            x.parish(p + 1);
        }
        x.miles(0, 1, 3);
        x.miles(1, 2, 4);
        for (int kind = 0; kind < 4; kind++) {
            x.person(kind, kind % 3, kind + 1);
        }
        x.law(0, 0, 0, 100);
        x.law(1, 2, 0, 100);
        x.law(3, 0, 0, 100);
        x.law(4, 50, 0, 100);
        x.fact(0, 0, 1, 0, 5, 9, 0);
        x.fact(0, 0, 2, 0, 5, 8, 0);
        x.doubt(1, true);
        x.husband(1, 0, 10);
        x.father(2, 0);
        x.order(0, 0, 1, 20);
        x.order(0, 1, 2, 20);
        x.appeal(1, 20);
        x.list(0, 1, 2);
        x.earns(0, 4);
        x.price(2, 10);
        x.set(0, 70);
        x.set(1, 5);
        return x;
    }

    private static void keepsEverything() {
        PoorDesk x = whole();
        x.keep();
        x.parish(9);
        x.miles(0, 1, 9);
        x.miles(2, 3, 9);
        x.person(1, 2, 3);
        x.husband(1, 3, 11);
        x.father(2, -1);
        x.forget();
        x.forget();
        x.fact(1, 1, 0, 7, 0, 0, 99);
        x.doubt(0, true);
        x.law(2, 0, 0, 0);
        x.ends(0, 0);
        x.appeal(0, 20);
        x.order(1, 2, 0, 7);
        x.set(0, 0);
        x.set(1, 1);
        x.list(0, 0, 9);
        x.list(1, 1, 0);
        x.earns(0, 0);
        x.price(2, 0);
        x.price(3, 5);
        Due.is(34, "back()", x.back(), 4);
        isWhole(x);
    }

    private static void isWhole(PoorDesk x) {
        int[] counts = {3, 4, 2, 4, 2};
        for (int what = 0; what < counts.length; what++) {
            Due.is(34, "told(" + what + ")", x.told(what), counts[what]);
        }
        Due.is(34, "told(6)", x.told(6), 1);
        Due.is(34, "rate(2, 6)", x.rate(2, 6), 3);
        Due.is(34, "own(0, 50, 0)", x.own(0, 50, 0), 1);
        Due.is(34, "settlement(1, 50, 0)", x.settlement(1, 50, 0), 1);
        Due.is(34, "through(1, 10, 0)", x.through(1, 10, 0), 0);
        Due.is(34, "through(2, 50, 0)", x.through(2, 50, 0), 0);
        Due.is(34, "own(3, 50, 0)", x.own(3, 50, 0), 0);
        Due.is(34, "question(0, 50, 0)", x.question(0, 50, 0), 1);
        Due.is(34, "ordered(0, 5)", x.ordered(0, 5), 0);
        Due.is(34, "ordered(1, 5)", x.ordered(1, 5), 2);
        Due.is(34, "costs(1)", x.costs(1), 12 + 16);
        Due.is(34, "relief(0, 2)", x.relief(0, 2), 46);
        Due.is(34, "relief(1, 2)", x.relief(1, 2), Due.NONE);
        Due.is(34, "price(3, 0)", x.price(3, 0), 0);
        Due.is(34, "miles(1, 0, 0)", x.miles(1, 0, 0), 3);
        Due.is(34, "miles(1, 2, 0)", x.miles(1, 2, 0), 4);
        Due.is(34, "set(0, 0)", x.set(0, 0), 70);
        Due.is(34, "set(1, 1)", x.set(1, 1), 5);
        Due.is(34, "earns(0, 0)", x.earns(0, 0), 4);
        Due.is(34, "list(0, -1, 0)", x.list(0, -1, 0), 1);
        Due.is(34, "ends(0, 100)", x.ends(0, 100), 100);
        Due.is(34, "husband(1, -1, 0)", x.husband(1, -1, 0), 0);
        Due.is(34, "father(2, -1)", x.father(2, -1), 0);
    }

    private static void backWithFewer() {
        PoorDesk x = new PoorDesk();
        x.parish(1);
        x.keep();
        x.parish(1);
        x.miles(0, 1, 50);
        x.person(1, 0, 0);
        x.person(0, 0, 0);
        x.husband(0, 1, 5);
        x.list(0, 1, 3);
        x.earns(0, 77);
        x.back();
        Due.is(34, "parish(1)", x.parish(1), 1);
        Due.is(34, "miles(0, 1, 1): 0 at first", x.miles(0, 1, 1), 0);
        Due.is(34, "person(1, 0, 0)", x.person(1, 0, 0), 0);
        Due.is(34, "husband(0, -1, 0): none at first", x.husband(0, -1, 0), -1);
        Due.is(34, "list(0, -1, 0): on none at first", x.list(0, -1, 0), -1);
        Due.is(34, "earns(0, 0): 0 at first", x.earns(0, 0), 0);
    }

    private static void whatIsGoneDoesNotCount() {
        PoorDesk x = new PoorDesk();
        x.parish(1);
        x.parish(1);
        x.person(0, 0, 0);
        x.person(1, 0, 0);
        x.person(2, 0, 0);
        x.fact(1, 0, 0, 5, 0, 0, 0);
        x.list(0, 0, 0);
        x.price(0, 10);
        x.husband(1, 0, 0);
        x.father(2, 0);
        x.keep();
        for (int kind = 0; kind < 5; kind++) {
            x.law(kind, kind == 4 ? 9 : 0, 0, 99);
        }
        int wife = x.person(1, 0, 0);
        x.husband(wife, 0, 0);
        x.list(wife, 0, 0);
        x.order(0, 0, 1, 0);
        Due.is(34, "relief(0, 0)", x.relief(0, 0), 50);
        Due.is(34, "through(1, 0, 0)", x.through(1, 0, 0), 0);
        x.back();
        Due.is(34, "relief(0, 0)", x.relief(0, 0), 30);
        Due.is(34, "week(0, 0)", x.week(0, 0), 30);
        Due.is(34, "own(0, 0, 0)", x.own(0, 0, 0), Due.NONE);
        Due.is(34, "own(1, 0, 0)", x.own(1, 0, 0), Due.NONE);
        x.law(0, 0, 0, 0);
        Due.is(34, "own(0, 0, 0)", x.own(0, 0, 0), 0);
        Due.is(34, "through(1, 0, 0)", x.through(1, 0, 0), 1);
        Due.is(34, "through(2, 0, 0)", x.through(2, 0, 0), 2);
        Due.is(34, "costs(1)", x.costs(1), 0);
        Due.is(34, "ordered(0, 0)", x.ordered(0, 0), Due.BEYOND);
    }

    private static void forgottenFactsComeBack() {
        PoorDesk x = new PoorDesk();
        x.parish(1);
        x.parish(1);
        x.person(0, 0, 0);
        x.law(1, 4, 0, 99);
        x.law(2, 5, 0, 99);
        x.fact(0, 0, 0, 0, 5, 8, 0);
        x.fact(1, 0, 1, 5, 9, 20, 3);
        x.doubt(1, true);
        x.keep();
        x.forget();
        x.forget();
        x.fact(0, 0, 1, 0, 6, 8, 0);
        x.fact(1, 0, 0, 4, 10, 10, 9);
        Due.is(34, "own(0, 50, 50)", x.own(0, 50, 50), Due.NONE);
        x.back();
        Due.is(34, "own(0, 8, 50)", x.own(0, 8, 50), 0);
        Due.is(34, "own(0, 9, 3)", x.own(0, 9, 3), 1);
        Due.is(34, "own(0, 9, 2)", x.own(0, 9, 2), 0);
        Due.is(34, "question(0, 9, 3)", x.question(0, 9, 3), 1);
    }

    private static void sheetsAreNotKept() {
        PoorDesk x = new PoorDesk();
        x.sheet(0, 8, 2);
        x.put(0, 0, 7);
        x.keep();
        x.put(0, 1, 8);
        x.sheet(1, 16, 1);
        x.back();
        Due.is(34, "read(0)", x.read(0), 2);
        Due.is(34, "read(1)", x.read(1), 0);
        Due.is(34, "read(2)", x.read(2), Due.MISSING);
        x.back();
        Due.is(34, "price(1, 0)", x.price(1, 0), 0);
    }

    private static void told() {
        PoorDesk x = whole();
        int[] due = {3, 4, 2, 4, 2, 0, 1};
        for (int what = 0; what < due.length; what++) {
            Due.is(35, "told(" + what + ")", x.told(what), due[what]);
        }
        Due.is(35, "told(7)", x.told(7), Due.BEYOND);
        Due.is(35, "told(-1)", x.told(-1), Due.BEYOND);
        Due.is(35, "told(5): these, too", x.told(5), 2);
        Due.is(35, "told(5): it does not count itself", x.told(5), 2);
    }

    private static void toldOfFindings() {
        PoorDesk x = whole();
        int due = 0;
        int[] refused = {
            x.parish(-1), x.miles(0, 0, 0), x.person(9, 0, 0), x.as(0, 1), x.husband(1, 1, 0), x.father(2, 2),
            x.fact(0, 0, 0, 0, 2, 1, 0), x.doubt(9, true), x.law(9, 0, 0, 0), x.ends(0, -1), x.own(0, 0, 0),
            x.settlement(0, 0, 0), x.through(9, 0, 0), x.could(9, 0, 0), x.question(9, 0, 0), x.order(0, 0, 0, 0),
            x.appeal(0, 99), x.ordered(0, 9), x.costs(9), x.set(9, 0), x.list(9, 0, 0), x.earns(9, 0), x.price(99, 0),
            x.relief(1, 0), x.week(0, 0), x.rate(9, 0), x.sheet(9, 8, 0), x.put(0, 0, 0), x.copy(0, 0, 0, 0, 0),
            x.read(0), x.back(), x.told(9),
        };
        for (int answer : refused) {
            Due.holds("a finding: " + answer, answer < -99999);
            due++;
        }
        Due.is(35, "told(5)", x.told(5), due);
        x.keep();
        x.parish(-1);
        x.forget();
        x.forget();
        x.forget();
        x.back();
        Due.is(35, "told(5) is not kept", x.told(5), due + 2);
        Due.is(35, "list(1, -1, 0) is no finding", x.list(1, -1, 0), -1);
        Due.is(35, "told(5)", x.told(5), due + 2);
    }
}
