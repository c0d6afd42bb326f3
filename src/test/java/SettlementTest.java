/** Promises 13 to 17: settlements. */
public final class SettlementTest {
    private static final int[][] WRONG = {
        {-1, 0, 0}, {4, 0, 0}, {0, -1, 0}, {0, 10000, 0}, {0, 0, -1}, {0, 0, 10000}, {Due.LEAST, Due.MOST, Due.LEAST},
    };

    public static void main(String[] args) {
        wrongInputs();
        ownByBirth();
        ownByService();
        ownByRent();
        ownByTheLatest();
        ownCountsDoubted();
        wives();
        children();
        chains();
        could();
        question();
        questionCountsNone();
        questionTakesTheGreater();
        eightDoubted();
        Due.end();
    }

    /** Four parishes; persons 0 PERSON, 1 WIFE, 2 CHILD, 3 FOUNDLING, each born in the parish of its number. */
    private static PoorDesk start(int born) {
        PoorDesk x = new PoorDesk();
        for (int p = 0; p < 4; p++) {
            x.parish(1);
        }
        for (int p = 0; p < 4; p++) {
            x.person(p, p, born);
        }
        return x;
    }

    private static void wrongInputs() {
        PoorDesk x = start(0);
        x.law(0, 0, 0, 9999);
        x.fact(0, 0, 0, 0, 0, 0, 0);
        x.doubt(0, true);
        for (int[] a : WRONG) {
            String row = "(" + a[0] + ", " + a[1] + ", " + a[2] + ")";
            Due.is(13, "own" + row, x.own(a[0], a[1], a[2]), Due.BEYOND);
            Due.is(14, "settlement" + row, x.settlement(a[0], a[1], a[2]), Due.BEYOND);
            Due.is(15, "through" + row, x.through(a[0], a[1], a[2]), Due.BEYOND);
            Due.is(16, "could" + row, x.could(a[0], a[1], a[2]), Due.BEYOND);
            Due.is(17, "question" + row, x.question(a[0], a[1], a[2]), Due.BEYOND);
        }
        Due.is(13, "own(3, 9999, 9999)", x.own(3, 9999, 9999), 3);
        Due.is(14, "settlement(3, 9999, 9999)", x.settlement(3, 9999, 9999), 3);
        Due.is(15, "through(3, 9999, 9999)", x.through(3, 9999, 9999), 3);
        Due.is(16, "could(3, 9999, 9999)", x.could(3, 9999, 9999), 8);
        Due.is(17, "question(3, 9999, 9999)", x.question(3, 9999, 9999), 0);
    }

    private static void ownByBirth() {
        PoorDesk x = start(10);
        Due.is(13, "without a law", x.own(2, 10, 0), Due.NONE);
        x.law(0, 5000, 11, 20);
        x.law(0, 5000, 0, 9);
        x.law(1, 0, 10, 10);
        Due.is(13, "with laws on other days", x.own(2, 10, 0), Due.NONE);
        x.law(0, 5000, 10, 10);
        Due.is(13, "on the day of birth", x.own(2, 10, 0), 2);
        Due.is(13, "long behind it", x.own(2, 9999, 0), 2);
        Due.is(13, "ahead of it", x.own(2, 9, 9999), Due.NONE);
        Due.is(13, "of a FOUNDLING", x.own(3, 10, 0), 3);
    }

    private static void ownByService() {
        PoorDesk x = start(0);
        x.law(1, 5, 20, 30);
        x.fact(0, 0, 2, 0, 26, 30, 40);
        Due.is(13, "5 days", x.own(0, 30, 40), 2);
        Due.is(13, "its last day is behind D", x.own(0, 29, 40), Due.NONE);
        Due.is(13, "not KNOWN yet", x.own(0, 30, 39), Due.NONE);
        Due.is(13, "of another person", x.own(1, 30, 40), Due.NONE);
        x.fact(0, 1, 2, 0, 27, 30, 0);
        Due.is(13, "4 days", x.own(1, 99, 99), Due.NONE);
        x.law(1, 4, 29, 29);
        Due.is(13, "4 days, a lower law on another day", x.own(1, 99, 99), Due.NONE);
        x.law(1, 4, 30, 30);
        Due.is(13, "4 days, a lower law on its last day", x.own(1, 99, 99), 2);
        x.fact(0, 2, 1, 0, 20, 31, 0);
        Due.is(13, "its last day is behind the law", x.own(2, 99, 99), Due.NONE);
        x.fact(0, 2, 1, 0, 0, 19, 0);
        Due.is(13, "its last day is ahead of the law", x.own(2, 99, 99), Due.NONE);
        x.fact(0, 2, 1, 0, 0, 20, 0);
        Due.is(13, "its last day is the law's first", x.own(2, 99, 99), 1);
        x.law(2, 0, 0, 99);
        x.fact(0, 3, 1, 99, 60, 70, 0);
        Due.is(13, "a SERVICE under a law RENT", x.own(3, 99, 99), Due.NONE);
    }

    private static void ownByRent() {
        PoorDesk x = start(0);
        x.law(2, 10, 20, 30);
        x.fact(1, 0, 2, 10, 30, 90, 40);
        Due.is(13, "10 pounds", x.own(0, 30, 40), 2);
        Due.is(13, "its first day is behind D", x.own(0, 29, 40), Due.NONE);
        Due.is(13, "not KNOWN yet", x.own(0, 30, 39), Due.NONE);
        x.fact(1, 1, 2, 9, 30, 90, 0);
        Due.is(13, "9 pounds", x.own(1, 99, 99), Due.NONE);
        x.law(2, 9, 31, 99);
        Due.is(13, "9 pounds, a lower law on another day", x.own(1, 99, 99), Due.NONE);
        x.law(2, 9, 30, 30);
        Due.is(13, "9 pounds, a lower law on its first day", x.own(1, 99, 99), 2);
        x.fact(1, 2, 1, 99, 19, 25, 0);
        Due.is(13, "its first day is ahead of the law", x.own(2, 99, 99), Due.NONE);
        x.fact(1, 2, 1, 10, 20, 20, 0);
        Due.is(13, "its first day is the law's first", x.own(2, 99, 99), 1);
        x.law(1, 1, 0, 99);
        x.fact(1, 3, 1, 5, 5, 90, 0);
        Due.is(13, "a RENT under a law SERVICE", x.own(3, 99, 99), Due.NONE);
    }

    private static void ownByTheLatest() {
        PoorDesk x = start(10);
        x.law(0, 0, 0, 99);
        x.law(1, 1, 0, 99);
        x.law(2, 1, 0, 99);
        x.fact(0, 0, 1, 0, 0, 9, 0);
        Due.is(13, "BIRTH is later", x.own(0, 99, 99), 0);
        Due.is(13, "ahead of BIRTH", x.own(0, 9, 99), 1);
        x.fact(0, 0, 2, 0, 3, 10, 0);
        Due.is(13, "BIRTH counts as less on one day", x.own(0, 99, 99), 2);
        x.fact(1, 0, 3, 5, 10, 50, 0);
        Due.is(13, "the greatest fact of one day", x.own(0, 99, 99), 3);
        x.fact(0, 0, 1, 0, 10, 10, 0);
        Due.is(13, "the greatest fact of one day again", x.own(0, 99, 99), 1);
        x.fact(1, 0, 0, 5, 12, 12, 0);
        x.fact(1, 0, 3, 5, 11, 90, 0);
        Due.is(13, "the latest, not the greatest", x.own(0, 99, 99), 0);
        Due.is(13, "the latest up to D", x.own(0, 11, 99), 3);
        PoorDesk y = start(10);
        y.law(1, 1, 0, 99);
        y.fact(0, 0, 1, 0, 0, 0, 0);
        Due.is(13, "a gain on day 0", y.own(0, 0, 0), 1);
    }

    private static void ownCountsDoubted() {
        PoorDesk x = start(0);
        x.law(1, 1, 0, 99);
        x.fact(0, 0, 1, 0, 2, 2, 0);
        x.doubt(0, true);
        Due.is(13, "own by a DOUBTED fact", x.own(0, 5, 5), 1);
        Due.is(14, "settlement by a DOUBTED fact", x.settlement(0, 5, 5), 1);
    }

    private static void wives() {
        PoorDesk x = start(5);
        x.law(0, 0, 0, 99);
        x.law(3, 7777, 20, 30);
        x.husband(1, 0, 20);
        Due.is(14, "ahead of the marriage", x.settlement(1, 19, 0), 1);
        Due.is(15, "ahead of the marriage", x.through(1, 19, 0), 1);
        Due.is(14, "on its day", x.settlement(1, 20, 0), 0);
        Due.is(15, "on its day", x.through(1, 20, 0), 0);
        Due.is(13, "her own", x.own(1, 20, 0), 1);
        Due.is(14, "behind the law's last day", x.settlement(1, 99, 0), 0);
        Due.is(14, "of the HUSBAND", x.settlement(0, 99, 0), 0);
        Due.is(15, "of the HUSBAND", x.through(0, 99, 0), 0);
        x.husband(1, 0, 31);
        Due.is(14, "married behind the law", x.settlement(1, 99, 0), 1);
        x.husband(1, 0, 19);
        Due.is(14, "married ahead of the law", x.settlement(1, 99, 0), 1);
        x.husband(1, 0, 30);
        Due.is(14, "married on the law's last day", x.settlement(1, 99, 0), 0);
        x.husband(1, -1, 30);
        Due.is(14, "without a HUSBAND", x.settlement(1, 99, 0), 1);
        int late = x.person(0, 2, 60);
        x.husband(1, late, 20);
        Due.is(14, "he has none yet: her own", x.settlement(1, 59, 0), 1);
        Due.is(15, "he has none yet: her own", x.through(1, 59, 0), 1);
        Due.is(14, "he has one on D", x.settlement(1, 60, 0), 2);
        Due.is(14, "neither has one", x.settlement(1, 4, 0), Due.NONE);
        Due.is(15, "neither has one", x.through(1, 4, 0), 1);
        PoorDesk y = start(5);
        y.law(3, 0, 0, 99);
        y.husband(1, 0, 0);
        Due.is(15, "lack of both, married", y.through(1, 50, 0), 1);
        Due.is(14, "lack of both, married", y.settlement(1, 50, 0), Due.NONE);
        y.law(1, 1, 0, 99);
        y.fact(0, 0, 3, 0, 7, 8, 9);
        Due.is(14, "his fact is not KNOWN", y.settlement(1, 50, 8), Due.NONE);
        Due.is(14, "his fact is KNOWN", y.settlement(1, 50, 9), 3);
        Due.is(15, "his fact is KNOWN", y.through(1, 50, 9), 0);
    }

    private static void children() {
        PoorDesk x = start(5);
        x.law(0, 0, 0, 99);
        x.father(2, 0);
        Due.is(14, "without a law FATHER", x.settlement(2, 5, 0), 2);
        x.law(4, 10, 5, 5);
        Due.is(14, "of age 0", x.settlement(2, 5, 0), 0);
        Due.is(14, "of age 9", x.settlement(2, 14, 0), 0);
        Due.is(15, "of age 9", x.through(2, 14, 0), 0);
        Due.is(14, "of age 10", x.settlement(2, 15, 0), 2);
        Due.is(15, "of age 10", x.through(2, 15, 0), 2);
        x.law(4, 12, 6, 99);
        x.law(4, 12, 0, 4);
        Due.is(14, "laws on other days", x.settlement(2, 15, 0), 2);
        x.law(4, 3, 0, 99);
        Due.is(14, "the lower law does not hinder", x.settlement(2, 14, 0), 0);
        x.law(4, 11, 0, 99);
        Due.is(14, "some law reaches", x.settlement(2, 15, 0), 0);
        Due.is(14, "no law reaches", x.settlement(2, 16, 0), 2);
        int old = x.person(0, 3, 1);
        x.father(2, old);
        Due.is(14, "ahead of its birth", x.settlement(2, 4, 0), Due.NONE);
        Due.is(15, "ahead of its birth", x.through(2, 4, 0), 2);
        Due.is(14, "the other FATHER", x.settlement(2, 5, 0), 3);
        int late = x.person(0, 3, 9);
        x.father(2, late);
        Due.is(14, "its FATHER has none: its own", x.settlement(2, 8, 0), 2);
        Due.is(15, "its FATHER has none: its own", x.through(2, 8, 0), 2);
        Due.is(14, "its FATHER has one", x.settlement(2, 9, 0), 3);
        x.father(2, -1);
        Due.is(14, "without a FATHER", x.settlement(2, 9, 0), 2);
        PoorDesk y = start(5);
        y.law(0, 0, 0, 99);
        y.law(4, 0, 0, 99);
        y.father(2, 0);
        Due.is(14, "a NUMBER of 0 days", y.settlement(2, 5, 0), 2);
    }

    private static void chains() {
        PoorDesk x = start(5);
        int last = x.person(2, 0, 50);
        x.law(3, 0, 0, 99);
        x.law(4, 99, 0, 99);
        x.law(1, 1, 0, 99);
        x.husband(1, 0, 10);
        x.father(2, 1);
        x.father(last, 2);
        x.fact(0, 1, 1, 0, 20, 20, 0);
        x.fact(0, 2, 2, 0, 30, 30, 0);
        x.fact(0, 0, 3, 0, 60, 60, 0);
        Due.is(15, "nobody has one", x.through(last, 15, 99), last);
        Due.is(14, "nobody has one", x.settlement(last, 15, 99), Due.NONE);
        Due.is(15, "the nearer one has one too", x.through(2, 40, 99), 1);
        Due.is(15, "through two", x.through(last, 55, 99), 1);
        Due.is(14, "through two", x.settlement(last, 55, 99), 1);
        Due.is(15, "through three", x.through(last, 60, 99), 0);
        Due.is(14, "through three", x.settlement(last, 60, 99), 3);
        x.husband(1, 3, 10);
        Due.is(15, "the farthest lacks one", x.through(last, 60, 99), 1);
        x.husband(1, 0, 61);
        Due.is(15, "not married on D", x.through(last, 60, 99), 1);
        Due.is(15, "married on D", x.through(last, 61, 99), 0);
        wholeChain();
    }

    private static void wholeChain() {
        PoorDesk x = new PoorDesk();
        x.parish(1);
        x.parish(1);
        for (int p = 0; p < 10; p++) {
            x.person(p == 9 ? 0 : 1 + p % 2, 0, 0);
        }
        for (int p = 0; p < 9; p++) {
            int before = p % 2 == 0 ? x.husband(p, p + 1, 0) : x.father(p, p + 1);
            Due.is(15, p + " goes by the next", before, -1);
        }
        x.law(3, 0, 0, 0);
        x.law(4, 9, 0, 0);
        x.law(1, 1, 0, 9);
        x.fact(0, 9, 1, 0, 1, 1, 0);
        Due.is(15, "through nine", x.through(0, 1, 0), 9);
        Due.is(14, "through nine", x.settlement(0, 1, 0), 1);
        Due.is(16, "through nine", x.could(0, 1, 0), 2);
    }

    private static void could() {
        PoorDesk x = start(0);
        Due.is(16, "none", x.could(0, 5, 5), 64);
        x.law(1, 1, 0, 99);
        x.fact(0, 0, 1, 0, 1, 1, 0);
        Due.is(16, "nothing is DOUBTED", x.could(0, 5, 5), 2);
        x.doubt(0, true);
        Due.is(16, "the only one is DOUBTED", x.could(0, 5, 5), 2 + 64);
        Due.is(16, "ahead of it", x.could(0, 0, 5), 64);
        x.fact(0, 0, 3, 0, 2, 2, 4);
        Due.is(16, "a later one is sure", x.could(0, 5, 5), 8);
        Due.is(16, "a later one is not KNOWN", x.could(0, 5, 3), 2 + 64);
        x.doubt(1, true);
        Due.is(16, "both are DOUBTED", x.could(0, 5, 5), 2 + 8 + 64);
        x.law(0, 0, 0, 0);
        Due.is(16, "BIRTH is sure", x.could(0, 5, 5), 1 + 2 + 8);
        x.law(3, 0, 0, 99);
        x.husband(1, 0, 3);
        Due.is(16, "of a WIFE", x.could(1, 5, 5), 1 + 2 + 8);
        Due.is(16, "of a WIFE ahead of it", x.could(1, 2, 5), 2);
        Due.is(16, "of one of whom nothing is DOUBTED", x.could(3, 5, 5), 8);
        PoorDesk y = start(1);
        y.law(1, 1, 0, 99);
        y.law(3, 0, 0, 99);
        y.husband(1, 0, 0);
        y.fact(0, 0, 2, 0, 3, 3, 0);
        y.fact(0, 1, 3, 0, 4, 4, 0);
        y.doubt(0, true);
        Due.is(16, "her own in some way", y.could(1, 5, 5), 4 + 8);
        y.doubt(1, true);
        Due.is(16, "none in some way", y.could(1, 5, 5), 4 + 8 + 64);
    }

    private static void question() {
        PoorDesk x = start(0);
        x.law(0, 0, 0, 0);
        x.law(1, 1, 0, 99);
        x.fact(0, 3, 0, 0, 1, 1, 0);
        Due.is(17, "nothing is DOUBTED", x.question(0, 9, 9), Due.NONE);
        x.fact(0, 0, 1, 0, 1, 1, 0);
        x.fact(0, 0, 2, 0, 2, 2, 0);
        x.fact(0, 0, 3, 0, 3, 3, 0);
        x.doubt(0, true);
        Due.is(17, "one of another person", x.question(0, 9, 9), 0);
        x.doubt(1, true);
        x.doubt(2, true);
        // fact 3 is sure and the latest: {3} in all ways
        Due.is(17, "the latest is sure: none tells, the least", x.question(0, 9, 9), 0);
        x.doubt(3, true);
        // 0: 4 and 4; 1: {1,2,3} and {0,2,3}; 2: {2,3} and {0,1,3}; 3: {3} and {0,1,2}
        Due.is(17, "could", x.could(0, 9, 9), 15);
        Due.is(17, "of several the least", x.question(0, 9, 9), 1);
        x.fact(0, 0, 1, 0, 4, 4, 0);
        x.fact(0, 0, 1, 0, 5, 5, 0);
        x.doubt(5, true);
        Due.is(17, "4 is sure: 5 does not tell", x.question(0, 9, 9), 0);
        Due.is(17, "ahead of 4", x.question(0, 3, 9), 1);
        PoorDesk y = start(0);
        y.law(0, 0, 0, 0);
        y.law(1, 1, 0, 99);
        y.fact(0, 0, 1, 0, 1, 1, 0);
        y.fact(0, 0, 1, 0, 2, 2, 0);
        y.fact(0, 0, 2, 0, 3, 3, 0);
        y.doubt(0, true);
        y.doubt(1, true);
        y.doubt(2, true);
        // 0: {1,2} and {0,1,2}; 1: {1,2} and {0,1,2}; 2: {2} and {0,1}
        Due.is(17, "the one that tells most", y.question(0, 9, 9), 2);
        Due.is(17, "all of another person: none tells, the least", y.question(1, 9, 9), 0);
        y.doubt(0, false);
        // 1: {1,2} and {1,2}; 2: {2} and {1}
        Due.is(17, "a lower one is sure", y.question(0, 9, 9), 2);
    }

    private static void questionCountsNone() {
        PoorDesk x = start(9);
        x.law(1, 1, 0, 99);
        x.law(3, 0, 0, 99);
        x.husband(1, 0, 0);
        x.fact(0, 0, 1, 0, 1, 1, 0);
        x.fact(0, 0, 2, 0, 2, 2, 0);
        x.fact(0, 1, 3, 0, 3, 3, 0);
        x.doubt(0, true);
        x.doubt(1, true);
        x.doubt(2, true);
        // 0: {1,2} and {2,3,none}; 1: {2} and {1,3,none}; 2: {1,2,3} and {1,2,none}: each 3
        Due.is(17, "none counts as one", x.question(1, 5, 5), 0);
        x.doubt(0, false);
        x.doubt(2, false);
        x.forget();
        x.forget();
        x.fact(0, 3, 0, 0, 1, 1, 0);
        x.fact(0, 0, 2, 0, 2, 2, 0);
        x.doubt(1, true);
        x.doubt(0, true);
        x.doubt(2, true);
        // 0: {1,2} and {none,2}; 1 of another: {1,2,none} twice; 2: {2} and {1,none}
        Due.is(17, "none counts as one, of the two the least", x.question(0, 5, 5), 0);
        x.doubt(0, false);
        // 1 of another: {1,2} twice; 2: {2} and {1}
        Due.is(17, "the later fact tells most", x.question(0, 5, 5), 2);
    }

    private static void questionTakesTheGreater() {
        PoorDesk x = start(0);
        x.law(0, 0, 0, 0);
        x.law(1, 1, 0, 99);
        x.fact(0, 2, 2, 0, 2, 2, 0);
        x.fact(0, 2, 1, 0, 1, 1, 0);
        x.doubt(0, true);
        x.doubt(1, true);
        // born in 2; 0: {2} and {1,2}; 1: {1,2} and {2}
        Due.is(17, "the greater is the one if it is so", x.question(2, 9, 9), 0);
    }

    private static void eightDoubted() {
        PoorDesk x = start(0);
        x.parish(1);
        x.parish(1);
        x.law(1, 1, 0, 99);
        x.law(3, 0, 0, 99);
        x.husband(1, 0, 0);
        for (int f = 0; f < 8; f++) {
            x.fact(0, f < 2 ? 1 : 0, f < 6 ? f : 5, 0, 10 + f, 10 + f, 0);
            x.doubt(f, true);
        }
        Due.is(16, "all six, and none", x.could(1, 50, 50), 127);
        Due.is(16, "of the HUSBAND", x.could(0, 50, 50), 4 + 8 + 16 + 32 + 64);
        // 0: all but none, and all but 0: 6; 1: {1,2,3,4,5} and all but 1: 6; no other is below 6
        Due.is(17, "of the WIFE", x.question(1, 50, 50), 0);
        // 0, 1: all 5; 2: {2,3,4,5} and {3,4,5,none}: 4; no other is below 4
        Due.is(17, "of the HUSBAND", x.question(0, 50, 50), 2);
        Due.is(16, "up to a day", x.could(1, 13, 50), 1 + 2 + 4 + 8 + 64);
    }
}
