/** Promises 23 to 28: relief, rates. */
public final class ReliefRateTest {
    public static void main(String[] args) {
        list();
        earns();
        price();
        relief();
        reliefOfWives();
        week();
        rate();
        rateRests();
        rateOfTwo();
        Due.end();
    }

    /** Two parishes; persons 0 PERSON, 1 WIFE, 2 WIFE, 3 CHILD. */
    private static PoorDesk start() {
        PoorDesk x = new PoorDesk();
        x.parish(1);
        x.parish(1);
        x.person(0, 0, 0);
        x.person(1, 0, 0);
        x.person(1, 0, 0);
        x.person(2, 0, 0);
        return x;
    }

    private static void list() {
        PoorDesk x = start();
        Due.is(23, "list(4, 0, 0)", x.list(4, 0, 0), Due.BEYOND);
        Due.is(23, "list(-1, 0, 0)", x.list(-1, 0, 0), Due.BEYOND);
        Due.is(23, "list(4, -1, 0)", x.list(4, -1, 0), Due.BEYOND);
        Due.is(23, "list(0, 2, 0)", x.list(0, 2, 0), Due.BEYOND);
        Due.is(23, "list(0, -2, 0)", x.list(0, -2, 0), Due.BEYOND);
        Due.is(23, "list(0, 0, -1)", x.list(0, 0, -1), Due.BEYOND);
        Due.is(23, "list(0, 0, 60)", x.list(0, 0, 60), Due.BEYOND);
        Due.is(23, "list(0, -1, 60)", x.list(0, -1, 60), -1);
        Due.is(23, "list(0, 1, 59)", x.list(0, 1, 59), -1);
        Due.is(23, "list(0, 0, 0)", x.list(0, 0, 0), 1);
        Due.is(23, "list(0, -1, -7)", x.list(0, -1, -7), 0);
        Due.is(23, "list(0, 1, 8)", x.list(0, 1, 8), -1);
        Due.is(23, "relief(0, 7)", x.relief(0, 7), Due.NONE);
        Due.is(23, "relief(0, 8)", x.relief(0, 8), Due.MISSING);
        Due.is(23, "list(0, -1, 0)", x.list(0, -1, 0), 1);
        Due.is(23, "relief(0, 59)", x.relief(0, 59), Due.NONE);
    }

    private static void earns() {
        PoorDesk x = start();
        Due.is(24, "earns(4, 0)", x.earns(4, 0), Due.BEYOND);
        Due.is(24, "earns(-1, 0)", x.earns(-1, 0), Due.BEYOND);
        Due.is(24, "earns(0, -1)", x.earns(0, -1), Due.BEYOND);
        Due.is(24, "earns(0, 1000)", x.earns(0, 1000), Due.BEYOND);
        Due.is(24, "earns(0, 999)", x.earns(0, 999), 0);
        Due.is(24, "earns(0, 0)", x.earns(0, 0), 999);
        Due.is(24, "earns(3, 5)", x.earns(3, 5), 0);
        Due.is(24, "earns(0, 1)", x.earns(0, 1), 0);
    }

    private static void price() {
        PoorDesk x = start();
        Due.is(25, "price(-1, 1)", x.price(-1, 1), Due.BEYOND);
        Due.is(25, "price(60, 1)", x.price(60, 1), Due.BEYOND);
        Due.is(25, "price(0, -1)", x.price(0, -1), Due.BEYOND);
        Due.is(25, "price(0, 100)", x.price(0, 100), Due.BEYOND);
        Due.is(25, "price(0, 99)", x.price(0, 99), 0);
        Due.is(25, "price(59, 1)", x.price(59, 1), 0);
        Due.is(25, "price(0, 0)", x.price(0, 0), 99);
        Due.is(25, "price(0, 4)", x.price(0, 4), 0);
        Due.is(25, "price(59, 2)", x.price(59, 2), 1);
        x.list(0, 0, 0);
        Due.is(25, "relief(0, 0)", x.relief(0, 0), 12);
        Due.is(25, "relief(0, 59)", x.relief(0, 59), 6);
        Due.is(25, "relief(0, 58)", x.relief(0, 58), Due.MISSING);
    }

    private static void relief() {
        PoorDesk x = start();
        Due.is(26, "relief(4, 0)", x.relief(4, 0), Due.BEYOND);
        Due.is(26, "relief(-1, 0)", x.relief(-1, 0), Due.BEYOND);
        Due.is(26, "relief(0, -1)", x.relief(0, -1), Due.BEYOND);
        Due.is(26, "relief(0, 60)", x.relief(0, 60), Due.BEYOND);
        Due.is(26, "NONE is asked ahead of MISSING", x.relief(0, 0), Due.NONE);
        x.list(3, 1, 5);
        Due.is(26, "relief(3, 5)", x.relief(3, 5), Due.MISSING);
        x.price(4, 10);
        x.price(5, 10);
        x.price(59, 99);
        Due.is(26, "relief(3, 4)", x.relief(3, 4), Due.NONE);
        Due.is(26, "relief(3, 5)", x.relief(3, 5), 30);
        x.earns(3, 29);
        Due.is(26, "less what it EARNS", x.relief(3, 5), 1);
        x.earns(3, 30);
        Due.is(26, "all that it needs", x.relief(3, 5), 0);
        x.earns(3, 31);
        Due.is(26, "at least 0", x.relief(3, 5), 0);
        Due.is(26, "relief(3, 59)", x.relief(3, 59), 297 - 31);
    }

    private static void reliefOfWives() {
        PoorDesk x = start();
        x.husband(1, 0, 9999);
        x.husband(2, 0, 0);
        x.father(3, 0);
        for (int week = 0; week < 10; week++) {
            x.price(week, 10);
        }
        x.list(0, 0, 2);
        x.list(1, 0, 3);
        x.list(2, 0, 4);
        x.list(3, 0, 0);
        Due.is(26, "no WIFE is on it yet", x.relief(0, 2), 30);
        Due.is(26, "one WIFE", x.relief(0, 3), 50);
        Due.is(26, "two WIVES", x.relief(0, 4), 70);
        Due.is(26, "a WIFE of one on it", x.relief(1, 3), 0);
        Due.is(26, "a WIFE, no PRICE", x.relief(1, 30), Due.MISSING);
        Due.is(26, "a CHILD of one on it", x.relief(3, 5), 30);
        x.earns(0, 20);
        x.earns(1, 7);
        Due.is(26, "less what he EARNS", x.relief(0, 4), 50);
        x.list(1, 1, 0);
        Due.is(26, "a WIFE on another LIST", x.relief(0, 4), 30);
        Due.is(26, "on another LIST than his", x.relief(1, 4), 23);
        x.list(1, 0, 1);
        Due.is(26, "he is not on it yet", x.relief(1, 1), 23);
        Due.is(26, "he is on it", x.relief(1, 2), 0);
        x.list(0, -1, 0);
        Due.is(26, "he is on none", x.relief(1, 2), 23);
        x.list(0, 0, 0);
        x.husband(1, -1, 0);
        Due.is(26, "without a HUSBAND", x.relief(1, 2), 23);
        x.husband(1, 2, 0);
        Due.is(26, "a WIFE with a WIFE, he is on it", x.relief(2, 5), 0);
        Due.is(26, "the WIFE of a WIFE", x.relief(1, 5), 0);
        x.husband(2, -1, 0);
        Due.is(26, "a WIFE with a WIFE", x.relief(2, 5), 50);
    }

    private static void week() {
        PoorDesk x = start();
        Due.is(27, "week(2, 0)", x.week(2, 0), Due.BEYOND);
        Due.is(27, "week(-1, 0)", x.week(-1, 0), Due.BEYOND);
        Due.is(27, "week(0, -1)", x.week(0, -1), Due.BEYOND);
        Due.is(27, "week(0, 60)", x.week(0, 60), Due.BEYOND);
        Due.is(27, "week(0, 0)", x.week(0, 0), Due.MISSING);
        x.price(0, 5);
        x.price(1, 5);
        x.price(59, 1);
        Due.is(27, "with none", x.week(0, 0), 0);
        x.list(0, 0, 0);
        x.list(1, 0, 1);
        x.list(2, 0, 0);
        x.list(3, 1, 0);
        x.earns(2, 4);
        Due.is(27, "week(0, 0)", x.week(0, 0), 15 + 11);
        Due.is(27, "week(0, 1)", x.week(0, 1), 15 + 15 + 11);
        Due.is(27, "week(1, 1)", x.week(1, 1), 15);
        x.husband(1, 0, 0);
        Due.is(27, "a WIFE has 0", x.week(0, 1), 25 + 11);
        Due.is(27, "week(0, 2)", x.week(0, 2), Due.MISSING);
        Due.is(27, "week(1, 59)", x.week(1, 59), 3);
    }

    private static void rate() {
        PoorDesk x = new PoorDesk();
        Due.is(28, "rate(0, 1)", x.rate(0, 1), Due.BEYOND);
        x.parish(0);
        Due.is(28, "rate(0, 1)", x.rate(0, 1), Due.NONE);
        Due.is(28, "rate(0, 0)", x.rate(0, 0), Due.NONE);
        Due.is(28, "rate(0, 10001)", x.rate(0, 10001), Due.BEYOND);
        x.parish(10000);
        Due.is(28, "rate(0, -1)", x.rate(0, -1), Due.BEYOND);
        Due.is(28, "rate(0, 10001)", x.rate(0, 10001), Due.BEYOND);
        Due.is(28, "rate(2, 1)", x.rate(2, 1), Due.BEYOND);
        Due.is(28, "rate(-1, 1)", x.rate(-1, 1), Due.BEYOND);
        Due.is(28, "rate(1, 10000)", x.rate(1, 10000), 10000);
        Due.is(28, "rate(0, 10000)", x.rate(0, 10000), 0);
        Due.is(28, "rate(1, 0)", x.rate(1, 0), 0);
        for (int p = 2; p < 6; p++) {
            x.parish(10000);
        }
        for (int p = 1; p < 6; p++) {
            Due.is(28, "rate(" + p + ", 9999)", x.rate(p, 9999), p == 5 ? 1999 : 2000);
        }
    }

    private static void rateRests() {
        PoorDesk x = new PoorDesk();
        int[] worth = {1, 2, 3, 2, 1, 1};
        for (int w : worth) {
            x.parish(w);
        }
        // 7 pounds of 10: 0 r 7, 1 r 4, 2 r 1, 1 r 4, 0 r 7, 0 r 7; 3 are left
        int[] sevens = {1, 1, 2, 1, 1, 1};
        // 6 pounds of 10: 0 r 6, 1 r 2, 1 r 8, 1 r 2, 0 r 6, 0 r 6; 3 are left
        int[] sixes = {1, 1, 2, 1, 1, 0};
        // 3 pounds of 10: 0 r 3, 0 r 6, 0 r 9, 0 r 6, 0 r 3, 0 r 3; 3 are left
        int[] threes = {0, 1, 1, 1, 0, 0};
        // 2 pounds of 10: 0 r 2, 0 r 4, 0 r 6, 0 r 4, 0 r 2, 0 r 2; 2 are left
        int[] twos = {0, 1, 1, 0, 0, 0};
        // 20 pounds of 10: no rest
        int[] twenties = {2, 4, 6, 4, 2, 2};
        for (int p = 0; p < worth.length; p++) {
            Due.is(28, "rate(" + p + ", 7)", x.rate(p, 7), sevens[p]);
            Due.is(28, "rate(" + p + ", 6)", x.rate(p, 6), sixes[p]);
            Due.is(28, "rate(" + p + ", 3)", x.rate(p, 3), threes[p]);
            Due.is(28, "rate(" + p + ", 2)", x.rate(p, 2), twos[p]);
            Due.is(28, "rate(" + p + ", 20)", x.rate(p, 20), twenties[p]);
        }
    }

    private static void rateOfTwo() {
        PoorDesk x = new PoorDesk();
        x.parish(5);
        x.parish(5);
        Due.is(28, "rate(0, 10)", x.rate(0, 10), 5);
        Due.is(28, "rate(1, 10)", x.rate(1, 10), 5);
        Due.is(28, "rate(0, 11)", x.rate(0, 11), 6);
        Due.is(28, "rate(1, 11)", x.rate(1, 11), 5);
    }
}
