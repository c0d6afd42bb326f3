import java.util.Arrays;
import java.util.List;

/**
 * Looks at a desk, each a run of calls by which a part of what it holds can be told. Most of that is told only by
 * calls that change it, so each look is at a desk of its own, which is thrown away behind it.
 */
final class Looks {
    private interface Look {
        void at(PoorDesk x, Answers told);
    }

    /** The answers in their order. */
    private static final class Answers {
        private final int[] row = new int[World.MOST_CALLS];
        private int count = 0;

        void add(int answer) {
            row[count] = answer;
            count++;
        }

        void each(int n, PoorDesk x, World.Call call) {
            for (int i = 0; i < n; i++) {
                add(call.on(x, i));
            }
        }
    }

    // D and K of which settlements are asked.
    private static final int[][] DAYS = {{110, 0}, {205, 9999}, {260, 279}, {310, 9999}};

    private static final List<Look> NOW = List.of(
            Looks::counts, Looks::parishes, Looks::persons, Looks::settlements, Looks::doubts, Looks::facts,
            Looks::laws, Looks::orders, Looks::appeals, Looks::lists, Looks::prices);
    private static final List<Look> SHEETS = List.of(
            (x, told) -> sheet(x, told, 0), (x, told) -> sheet(x, told, 1), (x, told) -> sheet(x, told, 2),
            (x, told) -> sheet(x, told, 3));

    static final int COUNT = 2 * NOW.size() + SHEETS.size();

    private Looks() {
    }

    /** All looks at what is so now, then the same at what is kept, then those at the sheets. */
    static int[] see(int look, PoorDesk x) {
        Answers told = new Answers();
        if (look < NOW.size()) {
            NOW.get(look).at(x, told);
        } else if (look < 2 * NOW.size()) {
            told.add(x.back());
            NOW.get(look - NOW.size()).at(x, told);
        } else {
            SHEETS.get(look - 2 * NOW.size()).at(x, told);
        }
        return Arrays.copyOf(told.row, told.count);
    }

    private static void counts(PoorDesk x, Answers told) {
        told.each(5, x, (y, what) -> y.told(what));
        told.add(x.told(6));
        told.add(x.set(0, 60));
        told.add(x.set(1, 3));
    }

    private static void parishes(PoorDesk x, Answers told) {
        told.each(6, x, (y, p) -> y.rate(p, 9973));
        told.each(6, x, (y, p) -> y.costs(p));
        told.each(36, x, (y, i) -> y.miles(i / 6, i % 6, 0));
        told.add(x.parish(1));
    }

    private static void persons(PoorDesk x, Answers told) {
        told.each(40, x, (y, i) -> y.as(i / 4, i % 4));
        told.each(10, x, (y, p) -> y.husband(p, -1, 0));
        told.each(10, x, (y, p) -> y.father(p, -1));
        told.add(x.person(0, 0, 0));
    }

    private static void settlements(PoorDesk x, Answers told) {
        for (int[] day : DAYS) {
            told.each(10, x, (y, p) -> y.own(p, day[0], day[1]));
            told.each(10, x, (y, p) -> y.settlement(p, day[0], day[1]));
            told.each(10, x, (y, p) -> y.through(p, day[0], day[1]));
            told.each(10, x, (y, p) -> y.could(p, day[0], day[1]));
        }
        told.each(10, x, (y, p) -> y.question(p, 310, 9999));
    }

    private static void doubts(PoorDesk x, Answers told) {
        told.each(24, x, (y, f) -> y.doubt(f, false));
        told.add(x.fact(0, 0, 0, 0, 0, 0, 0));
    }

    /** The facts that are left tell which one went. */
    private static void facts(PoorDesk x, Answers told) {
        for (int f = 0; f < 24; f++) {
            told.add(x.forget());
            told.each(5, x, (y, p) -> y.own(p, 310, 9999));
        }
    }

    /** The first day of a law is the least on which it may end. */
    private static void laws(PoorDesk x, Answers told) {
        for (int l = 0; l < 12; l++) {
            int law = l;
            told.add(x.ends(law, 9999));
            told.each(16, x, (y, i) -> y.ends(law, i * 10 - 1));
        }
        told.add(x.law(0, 0, 0, 0));
    }

    private static void orders(PoorDesk x, Answers told) {
        told.each(120, x, (y, i) -> y.ordered(i / 6, i % 6));
        told.add(x.order(0, 0, 1, 0));
    }

    private static void appeals(PoorDesk x, Answers told) {
        told.each(20, x, (y, o) -> y.appeal(o, 310));
        told.each(6, x, (y, p) -> y.costs(p));
    }

    private static void lists(PoorDesk x, Answers told) {
        told.each(60, x, (y, i) -> y.relief(i / 6, i % 6));
        told.each(36, x, (y, i) -> y.week(i / 6, i % 6));
        told.each(10, x, (y, p) -> y.earns(p, 0));
        told.each(10, x, (y, p) -> y.list(p, -1, 0));
    }

    private static void prices(PoorDesk x, Answers told) {
        told.each(60, x, (y, w) -> y.price(w, 0));
    }

    /** Prices that stay are those for which the sheet has no number; those that wrap tell its bits. */
    private static void sheet(PoorDesk x, Answers told, int s) {
        told.each(4, x, (y, t) -> y.copy(s, 0, t, 0, 0));
        x.price(59, 98);
        told.add(x.read(s));
        told.each(60, x, (y, w) -> y.price(w, 97));
        told.add(x.put(s, 0, (1 << 8) + 3));
        told.add(x.put(s, 1, (1 << 16) + 3));
        told.add(x.read(s));
        told.each(60, x, (y, w) -> y.price(w, 0));
    }
}
