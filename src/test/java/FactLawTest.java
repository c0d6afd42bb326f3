/** Promises 8 to 12: facts, laws. */
public final class FactLawTest {
    public static void main(String[] args) {
        factFindings();
        factsAreFull();
        doubt();
        forget();
        law();
        lawsAreFull();
        ends();
        Due.end();
    }

    private static PoorDesk start() {
        PoorDesk x = new PoorDesk();
        x.parish(1);
        x.parish(1);
        x.person(0, 0, 0);
        x.person(1, 1, 0);
        return x;
    }

    private static void factFindings() {
        PoorDesk x = start();
        Due.is(8, "kind -1", x.fact(-1, 0, 0, 0, 0, 0, 0), Due.BEYOND);
        Due.is(8, "kind 2", x.fact(2, 0, 0, 0, 0, 0, 0), Due.BEYOND);
        Due.is(8, "person 2", x.fact(0, 2, 0, 0, 0, 0, 0), Due.BEYOND);
        Due.is(8, "person -1", x.fact(0, -1, 0, 0, 0, 0, 0), Due.BEYOND);
        Due.is(8, "parish 2", x.fact(0, 0, 2, 0, 0, 0, 0), Due.BEYOND);
        Due.is(8, "parish -1", x.fact(0, 0, -1, 0, 0, 0, 0), Due.BEYOND);
        Due.is(8, "RENT of -1", x.fact(1, 0, 0, -1, 0, 0, 0), Due.BEYOND);
        Due.is(8, "RENT of 100", x.fact(1, 0, 0, 100, 0, 0, 0), Due.BEYOND);
        Due.is(8, "from -1", x.fact(0, 0, 0, 0, -1, 0, 0), Due.BEYOND);
        Due.is(8, "from 10000", x.fact(0, 0, 0, 0, 10000, 10000, 0), Due.BEYOND);
        Due.is(8, "from 10000 to 0", x.fact(0, 0, 0, 0, 10000, 0, 0), Due.BEYOND);
        Due.is(8, "to 10000", x.fact(0, 0, 0, 0, 0, 10000, 0), Due.BEYOND);
        Due.is(8, "to -1", x.fact(0, 0, 0, 0, 0, -1, 0), Due.BEYOND);
        Due.is(8, "known 10000", x.fact(0, 0, 0, 0, 0, 0, 10000), Due.BEYOND);
        Due.is(8, "known -1", x.fact(0, 0, 0, 0, 0, 0, -1), Due.BEYOND);
        Due.is(8, "known -1, from above to", x.fact(0, 0, 0, 0, 2, 1, -1), Due.BEYOND);
        Due.is(8, "from above to", x.fact(1, 0, 0, 0, 2, 1, 0), Due.SIZE);
        Due.is(8, "told(2)", x.told(2), 0);
        Due.is(8, "SERVICE of pounds least", x.fact(0, 0, 0, Due.LEAST, 1, 1, 0), 0);
        Due.is(8, "SERVICE of pounds most", x.fact(0, 1, 1, Due.MOST, 0, 9999, 9999), 1);
        Due.is(8, "RENT of 0", x.fact(1, 0, 0, 0, 9999, 9999, 0), 2);
        Due.is(8, "RENT of 99", x.fact(1, 0, 0, 99, 0, 0, 0), 3);
        Due.is(8, "told(2)", x.told(2), 4);
        Due.is(8, "told(6)", x.told(6), 0);
    }

    private static void factsAreFull() {
        PoorDesk x = start();
        for (int f = 0; f < 24; f++) {
            Due.is(8, "fact " + f, x.fact(f % 2, f % 2, 0, 5, 3, 9, 0), f);
        }
        Due.is(8, "the 25th", x.fact(0, 0, 0, 0, 0, 0, 0), Due.FULL);
        Due.is(8, "the 25th, from above to", x.fact(0, 0, 0, 0, 1, 0, 0), Due.SIZE);
        Due.is(8, "the 25th, no such kind", x.fact(2, 0, 0, 0, 1, 0, 0), Due.BEYOND);
        Due.is(8, "told(2)", x.told(2), 24);
        Due.is(10, "forget()", x.forget(), 23);
        Due.is(8, "the 24th again", x.fact(0, 0, 0, 0, 0, 0, 0), 23);
    }

    private static void doubt() {
        PoorDesk x = start();
        Due.is(9, "doubt(0, true)", x.doubt(0, true), Due.BEYOND);
        for (int f = 0; f < 10; f++) {
            x.fact(0, 0, 0, 0, 0, 0, 0);
        }
        Due.is(9, "doubt(-1, true)", x.doubt(-1, true), Due.BEYOND);
        Due.is(9, "doubt(10, false)", x.doubt(10, false), Due.BEYOND);
        Due.is(9, "doubt(3, false)", x.doubt(3, false), 0);
        for (int f = 0; f < 8; f++) {
            Due.is(9, "doubt(" + f + ", true)", x.doubt(f, true), 1);
            Due.is(9, "told(6)", x.told(6), f + 1);
        }
        Due.is(9, "doubt(8, true), the 9th", x.doubt(8, true), Due.FULL);
        Due.is(9, "told(6)", x.told(6), 8);
        Due.is(9, "doubt(10, true), the 9th", x.doubt(10, true), Due.BEYOND);
        Due.is(9, "doubt(8, false) when 8 are", x.doubt(8, false), 0);
        Due.is(9, "doubt(2, true) again when 8 are", x.doubt(2, true), 0);
        Due.is(9, "doubt(2, false)", x.doubt(2, false), 1);
        Due.is(9, "doubt(2, false) again", x.doubt(2, false), 0);
        Due.is(9, "told(6)", x.told(6), 7);
        Due.is(9, "doubt(8, true)", x.doubt(8, true), 1);
        Due.is(9, "doubt(8, true) again", x.doubt(8, true), 0);
    }

    private static void forget() {
        PoorDesk x = start();
        Due.is(10, "forget()", x.forget(), Due.NONE);
        x.law(1, 0, 0, 99);
        x.fact(0, 0, 0, 0, 1, 1, 0);
        x.fact(0, 0, 1, 0, 2, 2, 0);
        x.doubt(1, true);
        Due.is(10, "own(0, 9, 9)", x.own(0, 9, 9), 1);
        Due.is(10, "forget()", x.forget(), 1);
        Due.is(10, "told(6)", x.told(6), 0);
        Due.is(10, "own(0, 9, 9)", x.own(0, 9, 9), 0);
        Due.is(10, "doubt(1, true)", x.doubt(1, true), Due.BEYOND);
        Due.is(10, "question(0, 9, 9)", x.question(0, 9, 9), Due.NONE);
        Due.is(10, "fact()", x.fact(0, 0, 1, 0, 2, 2, 0), 1);
        Due.is(10, "told(6): a new fact is not DOUBTED", x.told(6), 0);
        Due.is(10, "forget()", x.forget(), 1);
        Due.is(10, "forget()", x.forget(), 0);
        Due.is(10, "forget()", x.forget(), Due.NONE);
        Due.is(10, "told(2)", x.told(2), 0);
    }

    private static void law() {
        PoorDesk x = start();
        Due.is(11, "law(-1, ..)", x.law(-1, 0, 0, 0), Due.BEYOND);
        Due.is(11, "law(5, ..)", x.law(5, 0, 0, 0), Due.BEYOND);
        Due.is(11, "from -1", x.law(0, 0, -1, 0), Due.BEYOND);
        Due.is(11, "from 10000", x.law(0, 0, 10000, 10000), Due.BEYOND);
        Due.is(11, "from 10000 to 3", x.law(0, 0, 10000, 3), Due.BEYOND);
        Due.is(11, "to 10000", x.law(0, 0, 0, 10000), Due.BEYOND);
        Due.is(11, "to -1", x.law(0, 0, 0, -1), Due.BEYOND);
        int[] numbered = {1, 2, 4};
        for (int kind : numbered) {
            Due.is(11, kind + " of 10000", x.law(kind, 10000, 0, 0), Due.BEYOND);
            Due.is(11, kind + " of -1", x.law(kind, -1, 0, 0), Due.BEYOND);
            Due.is(11, kind + " of -1, from above to", x.law(kind, -1, 1, 0), Due.BEYOND);
        }
        Due.is(11, "from above to", x.law(1, 0, 1, 0), Due.SIZE);
        Due.is(11, "told(3)", x.told(3), 0);
        int laws = 0;
        for (int kind : numbered) {
            Due.is(11, kind + " of 9999", x.law(kind, 9999, 0, 9999), laws++);
            Due.is(11, kind + " of 0", x.law(kind, 0, 7, 7), laws++);
        }
        Due.is(11, "BIRTH of 10000", x.law(0, 10000, 0, 0), laws++);
        Due.is(11, "BIRTH of least", x.law(0, Due.LEAST, 0, 0), laws++);
        Due.is(11, "MARRIAGE of most", x.law(3, Due.MOST, 0, 0), laws++);
        Due.is(11, "MARRIAGE of -1", x.law(3, -1, 0, 0), laws++);
        Due.is(11, "told(3)", x.told(3), 10);
    }

    private static void lawsAreFull() {
        PoorDesk x = start();
        for (int l = 0; l < 12; l++) {
            Due.is(11, "law " + l, x.law(l % 5, l, l, 20), l);
        }
        Due.is(11, "the 13th", x.law(0, 0, 0, 0), Due.FULL);
        Due.is(11, "the 13th, from above to", x.law(0, 0, 1, 0), Due.SIZE);
        Due.is(11, "the 13th, no such kind", x.law(5, 0, 1, 0), Due.BEYOND);
        Due.is(11, "told(3)", x.told(3), 12);
        Due.is(12, "ends(11, 10)", x.ends(11, 10), Due.SIZE);
        Due.is(12, "ends(11, 11)", x.ends(11, 11), 20);
    }

    private static void ends() {
        PoorDesk x = start();
        x.law(0, 0, 0, 0);
        x.law(3, 0, 5, 7);
        Due.is(12, "ends(2, 0)", x.ends(2, 0), Due.BEYOND);
        Due.is(12, "ends(-1, 0)", x.ends(-1, 0), Due.BEYOND);
        Due.is(12, "ends(1, 10000)", x.ends(1, 10000), Due.BEYOND);
        Due.is(12, "ends(1, -1)", x.ends(1, -1), Due.BEYOND);
        Due.is(12, "ends(1, 4)", x.ends(1, 4), Due.SIZE);
        Due.is(12, "ends(1, 5)", x.ends(1, 5), 7);
        Due.is(12, "ends(1, 9999)", x.ends(1, 9999), 5);
        Due.is(12, "ends(1, 8)", x.ends(1, 8), 9999);
        Due.is(12, "ends(0, 0)", x.ends(0, 0), 0);
        int late = x.person(0, 1, 3);
        Due.is(12, "own of one born behind the law's last day", x.own(late, 9, 9), Due.NONE);
        Due.is(12, "ends(0, 3)", x.ends(0, 3), 0);
        Due.is(12, "own of one born on the law's last day", x.own(late, 9, 9), 1);
        Due.is(12, "ends(0, 2)", x.ends(0, 2), 3);
        Due.is(12, "own of one born behind it again", x.own(late, 9, 9), Due.NONE);
    }
}
