/** Promises 18 to 22: orders. */
public final class OrderTest {
    public static void main(String[] args) {
        order();
        ordersAreFull();
        appeal();
        appealByWhatIsKnown();
        appealOfAWife();
        ordered();
        costs();
        set();
        Due.end();
    }

    private static PoorDesk start() {
        PoorDesk x = new PoorDesk();
        for (int p = 0; p < 3; p++) {
            x.parish(1);
        }
        x.miles(0, 1, 5);
        x.miles(1, 2, 99);
        x.miles(0, 2, 7);
        x.person(0, 0, 10);
        x.person(1, 1, 10);
        x.law(0, 0, 0, 9999);
        return x;
    }

    private static void order() {
        PoorDesk x = start();
        Due.is(18, "order(2, ..)", x.order(2, 0, 1, 0), Due.BEYOND);
        Due.is(18, "order(-1, ..)", x.order(-1, 0, 1, 0), Due.BEYOND);
        Due.is(18, "from 3", x.order(0, 3, 1, 0), Due.BEYOND);
        Due.is(18, "from -1", x.order(0, -1, 1, 0), Due.BEYOND);
        Due.is(18, "to 3", x.order(0, 0, 3, 0), Due.BEYOND);
        Due.is(18, "to -1", x.order(0, 0, -1, 0), Due.BEYOND);
        Due.is(18, "day -1", x.order(0, 0, 1, -1), Due.BEYOND);
        Due.is(18, "day 10000", x.order(0, 0, 1, 10000), Due.BEYOND);
        Due.is(18, "one parish", x.order(0, 1, 1, 0), Due.SIZE);
        Due.is(18, "one parish, day 10000", x.order(0, 1, 1, 10000), Due.BEYOND);
        Due.is(18, "told(4)", x.told(4), 0);
        Due.is(18, "day 0", x.order(0, 0, 1, 0), 0);
        Due.is(18, "day 9999", x.order(1, 2, 0, 9999), 1);
        Due.is(18, "told(4)", x.told(4), 2);
        Due.is(18, "it STANDS", x.ordered(0, 5), 0);
        Due.is(18, "COSTS", x.ordered(0, 4), 20);
    }

    private static void ordersAreFull() {
        PoorDesk x = start();
        for (int o = 0; o < 20; o++) {
            Due.is(18, "order " + o, x.order(0, 1, 2, o), o);
        }
        Due.is(18, "the 21st", x.order(0, 1, 2, 0), Due.FULL);
        Due.is(18, "the 21st, one parish", x.order(0, 1, 1, 0), Due.SIZE);
        Due.is(18, "the 21st, no such person", x.order(2, 1, 1, 0), Due.BEYOND);
        Due.is(21, "costs(2)", x.costs(2), 20 * 4 * 99);
        Due.is(20, "ordered(19, 3)", x.ordered(19, 3), 19);
    }

    private static void appeal() {
        PoorDesk x = start();
        x.order(0, 1, 0, 100);
        x.order(0, 0, 1, 100);
        x.order(0, 1, 0, 9);
        Due.is(19, "appeal(3, 100)", x.appeal(3, 100), Due.BEYOND);
        Due.is(19, "appeal(-1, 100)", x.appeal(-1, 100), Due.BEYOND);
        Due.is(19, "appeal(0, -1)", x.appeal(0, -1), Due.BEYOND);
        Due.is(19, "appeal(0, 10000)", x.appeal(0, 10000), Due.BEYOND);
        Due.is(19, "appeal(0, 99)", x.appeal(0, 99), Due.LATE);
        Due.is(19, "appeal(0, 161)", x.appeal(0, 161), Due.LATE);
        Due.is(19, "it STANDS", x.ordered(0, 5), 0);
        Due.is(19, "appeal(0, 160)", x.appeal(0, 160), 0);
        Due.is(19, "it is CONFIRMED", x.ordered(0, 5), 1);
        Due.is(19, "appeal(1, 100)", x.appeal(1, 100), 1);
        Due.is(19, "it is QUASHED", x.ordered(1, 5), 2);
        Due.is(19, "a CONFIRMED one again", x.appeal(0, 100), Due.KIND);
        Due.is(19, "a QUASHED one again, late", x.appeal(1, 9999), Due.KIND);
        Due.is(19, "a QUASHED one, no such day", x.appeal(1, 10000), Due.BEYOND);
        Due.is(19, "there is no SETTLEMENT then", x.appeal(2, 9), 1);
    }

    private static void appealByWhatIsKnown() {
        PoorDesk x = start();
        x.law(1, 1, 0, 9999);
        x.fact(0, 0, 2, 0, 50, 60, 70);
        x.order(0, 0, 2, 60);
        x.order(0, 0, 2, 60);
        x.order(0, 0, 2, 59);
        x.doubt(0, true);
        Due.is(19, "not KNOWN on the day of the APPEAL", x.appeal(0, 69), 1);
        Due.is(19, "KNOWN on the day of the APPEAL", x.appeal(1, 70), 0);
        Due.is(19, "THE SETTLEMENT on the ORDER's day", x.appeal(2, 70), 1);
    }

    private static void appealOfAWife() {
        PoorDesk x = start();
        x.law(3, 0, 0, 9999);
        x.husband(1, 0, 20);
        x.order(1, 1, 0, 20);
        x.order(1, 2, 1, 19);
        x.order(1, 2, 1, 20);
        Due.is(19, "to her HUSBAND's", x.appeal(0, 20), 0);
        Due.is(19, "to her own, ahead of the marriage", x.appeal(1, 40), 0);
        Due.is(19, "to her own, married", x.appeal(2, 40), 1);
    }

    private static void ordered() {
        PoorDesk x = start();
        x.order(1, 2, 0, 33);
        int[] due = {1, 2, 0, 33, 28, 0};
        for (int what = 0; what < due.length; what++) {
            Due.is(20, "ordered(0, " + what + ")", x.ordered(0, what), due[what]);
        }
        Due.is(20, "ordered(0, 6)", x.ordered(0, 6), Due.BEYOND);
        Due.is(20, "ordered(0, -1)", x.ordered(0, -1), Due.BEYOND);
        Due.is(20, "ordered(1, 0)", x.ordered(1, 0), Due.BEYOND);
        Due.is(20, "ordered(-1, 0)", x.ordered(-1, 0), Due.BEYOND);
        x.miles(0, 2, 8);
        Due.is(20, "the MILES then", x.ordered(0, 4), 28);
    }

    private static void costs() {
        PoorDesk x = start();
        Due.is(21, "costs(3)", x.costs(3), Due.BEYOND);
        Due.is(21, "costs(-1)", x.costs(-1), Due.BEYOND);
        x.order(0, 2, 0, 20);
        x.order(0, 0, 1, 20);
        x.order(0, 2, 1, 20);
        Due.is(21, "costs(0)", x.costs(0), 28);
        Due.is(21, "costs(1)", x.costs(1), 20 + 396);
        Due.is(21, "costs(2)", x.costs(2), 0);
        x.appeal(0, 20);
        Due.is(21, "a CONFIRMED one", x.costs(0), 28);
        x.appeal(1, 20);
        Due.is(21, "a QUASHED one: from", x.costs(0), 28 + 20);
        Due.is(21, "a QUASHED one: to", x.costs(1), 396);
    }

    private static void set() {
        PoorDesk x = start();
        Due.is(22, "set(2, 1)", x.set(2, 1), Due.BEYOND);
        Due.is(22, "set(-1, 1)", x.set(-1, 1), Due.BEYOND);
        Due.is(22, "set(0, -1)", x.set(0, -1), Due.BEYOND);
        Due.is(22, "set(0, 1000)", x.set(0, 1000), Due.BEYOND);
        Due.is(22, "set(1, 0)", x.set(1, 0), Due.BEYOND);
        Due.is(22, "set(1, 21)", x.set(1, 21), Due.BEYOND);
        Due.is(22, "set(0, 0)", x.set(0, 0), 60);
        Due.is(22, "set(0, 999)", x.set(0, 999), 0);
        Due.is(22, "set(1, 1)", x.set(1, 1), 3);
        Due.is(22, "set(1, 20)", x.set(1, 20), 1);
        x.order(0, 1, 0, 1000);
        x.order(0, 1, 0, 1000);
        Due.is(22, "more than TERM behind", x.appeal(0, 2000), Due.LATE);
        Due.is(22, "TERM behind", x.appeal(0, 1999), 0);
        Due.is(22, "set(0, 0)", x.set(0, 0), 999);
        Due.is(22, "the TERM of now counts", x.appeal(1, 1001), Due.LATE);
        Due.is(22, "on the ORDER's day", x.appeal(1, 1000), 0);
        x.list(0, 0, 0);
        x.price(0, 2);
        Due.is(22, "SCALE", x.relief(0, 0), 40);
    }
}
