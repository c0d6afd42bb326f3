import java.util.Arrays;
import java.util.function.ToIntFunction;

/** Counts and prints the answers that are not the ones that are due. */
final class Due {
    static final int BEYOND = -100001;
    static final int MISSING = -100002;
    static final int SIZE = -100003;
    static final int KIND = -100004;
    static final int FULL = -100005;
    static final int NONE = -100006;
    static final int RING = -100007;
    static final int LATE = -100008;
    static final int LEAST = Integer.MIN_VALUE;
    static final int MOST = Integer.MAX_VALUE;

    private static String test = "";
    private static int asked = 0;
    private static int wrong = 0;

    private Due() {
    }

    /** What follows belongs to a test of this name. */
    static void begin(String name) {
        test = name;
    }

    static void is(int promise, String call, int got, int want) {
        is("promise " + promise + ": " + call, got, want);
    }

    static void is(String call, int got, int want) {
        asked++;
        if (got != want) {
            wrong++;
            System.out.println(test + call + " answered " + got + ", due is " + want);
        }
    }

    static void holds(String what, boolean so) {
        asked++;
        if (!so) {
            wrong++;
            System.out.println(test + "does not hold: " + what);
        }
    }

    /** A call on a new desk of a world. */
    static void answers(String what, World world, ToIntFunction<PoorDesk> call, int want) {
        is(what, call.applyAsInt(world.make()), want);
    }

    /** The finding is told and counted, and every look sees what it sees where the call was not made. */
    static void refuses(String what, World world, ToIntFunction<PoorDesk> call, int finding) {
        PoorDesk x = world.make();
        int before = x.told(5);
        is(what, call.applyAsInt(x), finding);
        is(what + ", then told(5)", x.told(5), before + 1);
        for (int look = 0; look < Looks.COUNT; look++) {
            PoorDesk y = world.make();
            call.applyAsInt(y);
            int[] got = Looks.see(look, y);
            int[] want = world.seen(look);
            int at = Arrays.mismatch(got, want);
            holds(what + " changes nothing: look " + look + " differs at " + at, at < 0);
            holds("look " + look + " is within 512 calls", world.size() + 2 + got.length <= World.MOST_CALLS);
        }
    }

    /** The last that is allowed on each side, with what it answers, and those beyond, which are BEYOND. */
    static void bounds(String what, World world, World.Call call, int least, int most, int... want) {
        answers(what + " " + least, world, x -> call.on(x, least), want[0]);
        answers(what + " " + most, world, x -> call.on(x, most), want[want.length - 1]);
        beyond(what, world, call, least - 1, most + 1, LEAST, MOST);
    }

    static void beyond(String what, World world, World.Call call, int... wrongValues) {
        for (int v : wrongValues) {
            refuses(what + " " + v, world, x -> call.on(x, v), BEYOND);
        }
    }

    static int countWrong() {
        return wrong;
    }

    static void end() {
        System.out.println(asked + " asked, " + wrong + " wrong");
        if (wrong > 0 || asked == 0) {
            System.exit(1);
        }
    }
}
