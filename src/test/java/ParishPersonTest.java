/** Promises 1 to 7: a new object, parishes, persons. */
public final class ParishPersonTest {
    public static void main(String[] args) {
        newObject();
        parish();
        miles();
        person();
        as();
        husband();
        father();
        rings();
        Due.end();
    }

    private static PoorDesk withParishes(int n) {
        PoorDesk x = new PoorDesk();
        for (int p = 0; p < n; p++) {
            x.parish(10 + p);
        }
        return x;
    }

    private static void newObject() {
        PoorDesk x = new PoorDesk();
        for (int what = 0; what <= 6; what++) {
            Due.is(1, "told(" + what + ")", x.told(what), 0);
        }
        for (int week = 0; week < 60; week++) {
            Due.is(1, "price(" + week + ", 0)", x.price(week, 0), 0);
        }
        for (int s = 0; s < 4; s++) {
            Due.is(1, "read(" + s + ")", x.read(s), Due.MISSING);
        }
        Due.is(1, "set(0, 1)", x.set(0, 1), 60);
        Due.is(1, "set(1, 1)", x.set(1, 1), 3);
        Due.is(1, "back()", x.back(), Due.NONE);
        Due.is(1, "costs(0)", x.costs(0), Due.BEYOND);
        Due.is(1, "own(0, 0, 0)", x.own(0, 0, 0), Due.BEYOND);
        Due.is(1, "ordered(0, 0)", x.ordered(0, 0), Due.BEYOND);
        Due.is(1, "ends(0, 0)", x.ends(0, 0), Due.BEYOND);
        Due.is(1, "forget()", x.forget(), Due.NONE);
        PoorDesk other = new PoorDesk();
        Due.is(1, "told(5) of another one", other.told(5), 0);
        Due.is(1, "set(0, 1) of another one", other.set(0, 1), 60);
    }

    private static void parish() {
        PoorDesk x = new PoorDesk();
        Due.is(2, "parish(-1)", x.parish(-1), Due.BEYOND);
        Due.is(2, "parish(10001)", x.parish(10001), Due.BEYOND);
        Due.is(2, "parish(least)", x.parish(Due.LEAST), Due.BEYOND);
        Due.is(2, "told(0)", x.told(0), 0);
        Due.is(2, "parish(0)", x.parish(0), 0);
        Due.is(2, "parish(10000)", x.parish(10000), 1);
        for (int p = 2; p < 6; p++) {
            Due.is(2, "parish(7)", x.parish(7), p);
        }
        Due.is(2, "parish(7), the 7th", x.parish(7), Due.FULL);
        Due.is(2, "parish(-1), the 7th", x.parish(-1), Due.BEYOND);
        Due.is(2, "told(0)", x.told(0), 6);
        Due.is(2, "rate(1, 10000)", x.rate(1, 10000), 9972);
    }

    private static void miles() {
        PoorDesk x = withParishes(3);
        Due.is(3, "miles(0, 2, 5)", x.miles(0, 2, 5), 0);
        Due.is(3, "miles(2, 0, 99)", x.miles(2, 0, 99), 5);
        Due.is(3, "miles(0, 2, 0)", x.miles(0, 2, 0), 99);
        Due.is(3, "miles(0, 2, 6)", x.miles(0, 2, 6), 0);
        Due.is(3, "miles(0, 1, 7)", x.miles(0, 1, 7), 0);
        Due.is(3, "miles(1, 2, 8)", x.miles(1, 2, 8), 0);
        Due.is(3, "miles(0, 2, 100)", x.miles(0, 2, 100), Due.BEYOND);
        Due.is(3, "miles(0, 2, -1)", x.miles(0, 2, -1), Due.BEYOND);
        Due.is(3, "miles(3, 0, 1)", x.miles(3, 0, 1), Due.BEYOND);
        Due.is(3, "miles(0, 3, 1)", x.miles(0, 3, 1), Due.BEYOND);
        Due.is(3, "miles(-1, 0, 1)", x.miles(-1, 0, 1), Due.BEYOND);
        Due.is(3, "miles(0, -1, 1)", x.miles(0, -1, 1), Due.BEYOND);
        Due.is(3, "miles(1, 1, 1)", x.miles(1, 1, 1), Due.SIZE);
        Due.is(3, "miles(1, 1, 100)", x.miles(1, 1, 100), Due.BEYOND);
        Due.is(3, "miles(3, 3, 1)", x.miles(3, 3, 1), Due.BEYOND);
        Due.is(3, "miles(2, 0, 1)", x.miles(2, 0, 1), 6);
        Due.is(3, "miles(1, 0, 1)", x.miles(1, 0, 1), 7);
        Due.is(3, "miles(2, 1, 1)", x.miles(2, 1, 1), 8);
    }

    private static void person() {
        PoorDesk x = withParishes(2);
        Due.is(4, "person(-1, 0, 0)", x.person(-1, 0, 0), Due.BEYOND);
        Due.is(4, "person(4, 0, 0)", x.person(4, 0, 0), Due.BEYOND);
        Due.is(4, "person(0, -1, 0)", x.person(0, -1, 0), Due.BEYOND);
        Due.is(4, "person(0, 2, 0)", x.person(0, 2, 0), Due.BEYOND);
        Due.is(4, "person(0, 0, -1)", x.person(0, 0, -1), Due.BEYOND);
        Due.is(4, "person(0, 0, 10000)", x.person(0, 0, 10000), Due.BEYOND);
        Due.is(4, "told(1)", x.told(1), 0);
        Due.is(4, "person(0, 0, 0)", x.person(0, 0, 0), 0);
        Due.is(4, "person(3, 1, 9999)", x.person(3, 1, 9999), 1);
        x.law(0, 0, 0, 9999);
        Due.is(4, "own(0, 0, 0)", x.own(0, 0, 0), 0);
        Due.is(4, "own(1, 9998, 0)", x.own(1, 9998, 0), Due.NONE);
        Due.is(4, "own(1, 9999, 0)", x.own(1, 9999, 0), 1);
        for (int p = 2; p < 10; p++) {
            Due.is(4, "person(2, 1, 3)", x.person(2, 1, 3), p);
        }
        Due.is(4, "person(2, 1, 3), the 11th", x.person(2, 1, 3), Due.FULL);
        Due.is(4, "person(2, 2, 3), the 11th", x.person(2, 2, 3), Due.BEYOND);
        Due.is(4, "told(1)", x.told(1), 10);
    }

    private static void as() {
        PoorDesk x = withParishes(1);
        int[][] due = {
            {1, 0, 0, 0},
            {1, 1, 0, 0},
            {1, 0, 1, 0},
            {1, 0, 1, 1},
        };
        for (int kind = 0; kind < 4; kind++) {
            x.person(kind, 0, 0);
            for (int asked = 0; asked < 4; asked++) {
                Due.is(5, "as(" + kind + ", " + asked + ")", x.as(kind, asked), due[kind][asked] == 1 ? kind : Due.KIND);
            }
        }
        Due.is(5, "as(4, 0)", x.as(4, 0), Due.BEYOND);
        Due.is(5, "as(-1, 0)", x.as(-1, 0), Due.BEYOND);
        Due.is(5, "as(0, 4)", x.as(0, 4), Due.BEYOND);
        Due.is(5, "as(0, -1)", x.as(0, -1), Due.BEYOND);
        Due.is(5, "as(most, most)", x.as(Due.MOST, Due.MOST), Due.BEYOND);
    }

    private static void husband() {
        PoorDesk x = withParishes(1);
        for (int kind = 0; kind < 4; kind++) {
            x.person(kind, 0, 0);
        }
        Due.is(6, "husband(1, 0, 0)", x.husband(1, 0, 0), -1);
        Due.is(6, "husband(1, 2, 9999)", x.husband(1, 2, 9999), 0);
        Due.is(6, "husband(1, 3, 10000)", x.husband(1, 3, 10000), Due.BEYOND);
        Due.is(6, "husband(1, 3, -1)", x.husband(1, 3, -1), Due.BEYOND);
        Due.is(6, "husband(1, 4, 0)", x.husband(1, 4, 0), Due.BEYOND);
        Due.is(6, "husband(1, -2, 0)", x.husband(1, -2, 0), Due.BEYOND);
        Due.is(6, "husband(4, 0, 0)", x.husband(4, 0, 0), Due.BEYOND);
        Due.is(6, "husband(-1, 0, 0)", x.husband(-1, 0, 0), Due.BEYOND);
        Due.is(6, "husband(0, 1, 0)", x.husband(0, 1, 0), Due.KIND);
        Due.is(6, "husband(2, 0, 0)", x.husband(2, 0, 0), Due.KIND);
        Due.is(6, "husband(3, 0, 0)", x.husband(3, 0, 0), Due.KIND);
        Due.is(6, "husband(0, 0, 0)", x.husband(0, 0, 0), Due.KIND);
        Due.is(6, "husband(0, -1, 0)", x.husband(0, -1, 0), Due.KIND);
        Due.is(6, "husband(0, 0, 10000)", x.husband(0, 0, 10000), Due.BEYOND);
        Due.is(6, "husband(1, 1, 0)", x.husband(1, 1, 0), Due.RING);
        Due.is(6, "husband(1, 1, -1)", x.husband(1, 1, -1), Due.BEYOND);
        Due.is(6, "husband(1, -1, 10000)", x.husband(1, -1, 10000), 2);
        Due.is(6, "husband(1, -1, -5)", x.husband(1, -1, -5), -1);
        Due.is(6, "husband(1, 3, 4)", x.husband(1, 3, 4), -1);
        Due.is(6, "husband(1, 3, 4)", x.husband(1, 3, 4), 3);
        Due.is(6, "told(5)", x.told(5), 14);
    }

    private static void father() {
        PoorDesk x = withParishes(1);
        for (int kind = 0; kind < 4; kind++) {
            x.person(kind, 0, 0);
        }
        Due.is(7, "father(2, 0)", x.father(2, 0), -1);
        Due.is(7, "father(2, 3)", x.father(2, 3), 0);
        Due.is(7, "father(2, 4)", x.father(2, 4), Due.BEYOND);
        Due.is(7, "father(2, -2)", x.father(2, -2), Due.BEYOND);
        Due.is(7, "father(4, 0)", x.father(4, 0), Due.BEYOND);
        Due.is(7, "father(-1, 0)", x.father(-1, 0), Due.BEYOND);
        Due.is(7, "father(0, 1)", x.father(0, 1), Due.KIND);
        Due.is(7, "father(1, 0)", x.father(1, 0), Due.KIND);
        Due.is(7, "father(3, 0)", x.father(3, 0), Due.KIND);
        Due.is(7, "father(3, 3)", x.father(3, 3), Due.KIND);
        Due.is(7, "father(3, -1)", x.father(3, -1), Due.KIND);
        Due.is(7, "father(3, 4)", x.father(3, 4), Due.BEYOND);
        Due.is(7, "father(2, 2)", x.father(2, 2), Due.RING);
        Due.is(7, "father(2, -1)", x.father(2, -1), 3);
        Due.is(7, "father(2, -1)", x.father(2, -1), -1);
    }

    private static void rings() {
        PoorDesk x = withParishes(1);
        for (int p = 0; p < 10; p++) {
            x.person(1 + p % 2, 0, 0);
        }
        for (int p = 0; p < 9; p++) {
            Due.is(6, p + " goes by " + (p + 1), goBy(x, p, p + 1), -1);
        }
        for (int p = 0; p < 10; p++) {
            Due.is(7, "9 goes by " + p, goBy(x, 9, p), Due.RING);
        }
        Due.is(6, "4 goes by 2", goBy(x, 4, 2), Due.RING);
        Due.is(7, "5 goes by 5", goBy(x, 5, 5), Due.RING);
        Due.is(7, "3 goes by 9", goBy(x, 3, 9), 4);
        Due.is(6, "4 goes by 2", goBy(x, 4, 2), 5);
        Due.is(7, "9 goes by 0", goBy(x, 9, 0), Due.RING);
        Due.is(7, "9 goes by none", goBy(x, 9, -1), -1);
        Due.is(6, "8 goes by none", goBy(x, 8, -1), 9);
        Due.is(7, "9 goes by 5", goBy(x, 9, 5), -1);
        Due.is(6, "8 goes by 9", goBy(x, 8, 9), Due.RING);
    }

    private static int goBy(PoorDesk x, int person, int other) {
        return person % 2 == 0 ? x.husband(person, other, 3) : x.father(person, other);
    }
}
