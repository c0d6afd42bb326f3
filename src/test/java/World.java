import java.util.ArrayList;
import java.util.List;
import java.util.function.ToIntFunction;

/**
 * A run of calls that makes a desk ready for a test. It can be run any number of times, so that a desk on which a
 * call was refused can be looked at beside one on which it was not made.
 */
final class World {
    /** A call with one of its numbers left open. */
    interface Call {
        int on(PoorDesk x, int v);
    }

    static final int MOST_CALLS = 512;

    private final List<ToIntFunction<PoorDesk>> calls;
    private final int[][] seen = new int[Looks.COUNT][];

    private World(List<ToIntFunction<PoorDesk>> calls) {
        this.calls = calls;
    }

    /** No parish, no person, no fact, no law, no order. */
    static World empty() {
        return new World(List.of());
    }

    World then(ToIntFunction<PoorDesk> call) {
        List<ToIntFunction<PoorDesk>> more = new ArrayList<>(calls);
        more.add(call);
        return new World(more);
    }

    /** The same call for 0, 1, .. below n. */
    World each(int n, Call call) {
        List<ToIntFunction<PoorDesk>> more = new ArrayList<>(calls);
        for (int i = 0; i < n; i++) {
            int v = i;
            more.add(x -> call.on(x, v));
        }
        return new World(more);
    }

    int size() {
        return calls.size();
    }

    PoorDesk make() {
        PoorDesk x = new PoorDesk();
        for (int i = 0; i < calls.size(); i++) {
            int answer = calls.get(i).applyAsInt(x);
            Due.holds("call " + i + " that makes the desk ready is not refused: " + answer, answer > -100000);
        }
        return x;
    }

    /** What a look at a desk of this world sees, when no other call has been made. */
    int[] seen(int look) {
        if (seen[look] == null) {
            seen[look] = Looks.see(look, make());
        }
        return seen[look];
    }

    /** Parishes of WORTH 10, 11, .. */
    static World parishes(int n) {
        return empty().each(n, (x, p) -> x.parish(10 + p));
    }

    /** Two parishes, and a person of each kind with the kind's number: 0, 2 of parish 0, 1, 3 of parish 1, born on 10. */
    static World people() {
        return parishes(2).each(4, (x, kind) -> x.person(kind, kind % 2, 10));
    }

    /** As people(), with a law BIRTH on all days. */
    static World settled() {
        return people().then(x -> x.law(0, 0, 0, 9999));
    }

    /** Something of all there is, and something else kept; nothing is full. */
    static World some() {
        return lives().then(x -> x.keep())
                .then(x -> x.parish(2)).then(x -> x.miles(3, 0, 17)).then(x -> x.miles(1, 0, 4))
                .then(x -> x.person(1, 3, 120)).then(x -> x.husband(7, 0, 310)).then(x -> x.father(6, 7))
                .then(x -> x.fact(0, 5, 3, 0, 290, 299, 300)).then(x -> x.doubt(2, true))
                .then(x -> x.law(4, 9, 0, 9999)).then(x -> x.ends(2, 450))
                .then(x -> x.order(4, 2, 0, 304)).then(x -> x.appeal(2, 310)).then(x -> x.set(0, 70))
                .then(x -> x.list(7, 0, 5)).then(x -> x.earns(4, 7)).then(x -> x.price(5, 33));
    }

    private static World lives() {
        int[] worth = {5, 0, 7};
        int[] kinds = {0, 1, 2, 3, 0, 1, 2};
        int[] born = {100, 110, 200, 210, 0, 120, 205};
        World w = empty().each(3, (x, p) -> x.parish(worth[p]))
                .then(x -> x.miles(0, 1, 3)).then(x -> x.miles(1, 2, 99)).then(x -> x.miles(0, 2, 8))
                .each(7, (x, p) -> x.person(kinds[p], p % 3, born[p]))
                .then(x -> x.law(0, 0, 50, 9000)).then(x -> x.law(1, 5, 0, 9999)).then(x -> x.law(2, 10, 0, 500))
                .then(x -> x.law(3, 0, 100, 400)).then(x -> x.law(4, 80, 150, 300))
                .then(x -> x.husband(1, 0, 300)).then(x -> x.husband(5, 4, 250))
                .then(x -> x.father(2, 0)).then(x -> x.father(6, 1))
                .then(x -> x.fact(0, 0, 1, 0, 250, 260, 270)).then(x -> x.fact(1, 0, 2, 10, 255, 300, 280))
                .then(x -> x.fact(0, 4, 0, 0, 300, 304, 300)).then(x -> x.fact(1, 1, 0, 12, 304, 304, 0))
                .then(x -> x.doubt(1, true)).then(x -> x.doubt(3, true))
                .then(x -> x.order(0, 0, 1, 260)).then(x -> x.order(1, 1, 2, 304));
        return w.then(x -> x.list(0, 0, 3)).then(x -> x.list(1, 0, 4)).then(x -> x.list(4, 1, 0))
                .then(x -> x.earns(0, 6)).then(x -> x.earns(4, 70)).then(x -> x.set(1, 4))
                .then(x -> x.sheet(0, 8, 6)).each(6, (x, i) -> x.put(0, i, 20 + i)).then(x -> x.read(0))
                .then(x -> x.sheet(1, 16, 4)).each(4, (x, i) -> x.put(1, i, 90 - i))
                .then(x -> x.sheet(2, 8, 3)).then(x -> x.put(2, 1, 5));
    }

    /** As many of all as there may be, kept too. */
    static World full() {
        int[] kinds = {0, 1, 2, 1, 2, 3, 0, 1, 2, 1};
        return empty().each(6, (x, p) -> x.parish(10000 - p)).each(5, (x, p) -> x.miles(p, p + 1, 95 + p))
                .each(10, (x, p) -> x.person(kinds[p], p % 6, 100 + p))
                .then(x -> x.husband(1, 0, 150)).then(x -> x.father(2, 1)).then(x -> x.husband(3, 2, 160))
                .then(x -> x.father(4, 3)).then(x -> x.husband(7, 6, 9999)).then(x -> x.husband(9, 0, 0))
                .each(24, (x, f) -> x.fact(f % 2, f % 5, f % 6, f * 4, 200 + f, 210 + f, f < 20 ? 0 : 220))
                .each(8, (x, f) -> x.doubt(3 * f, true))
                .each(12, (x, l) -> x.law(l % 5, l == 4 || l == 9 ? 120 : l, 10 * l, 9999 - l))
                .each(20, (x, o) -> x.order(o % 10, o % 6, (o + 1) % 6, 200 + o))
                .each(3, (x, o) -> x.appeal(5 * o, 230))
                .each(10, (x, p) -> x.list(p, p % 2, p)).each(10, (x, p) -> x.earns(p, 10 * p))
                .each(3, (x, s) -> x.sheet(s, 8 << s, 60)).each(3, (x, s) -> x.put(s, s, 50 + s))
                .then(x -> x.sheet(3, 8, 60)).each(60, (x, w) -> x.put(3, w, 1 + w)).then(x -> x.read(3))
                .then(x -> x.keep()).then(x -> x.set(0, 999)).then(x -> x.set(1, 20)).then(x -> x.price(59, 99));
    }
}
