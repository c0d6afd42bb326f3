import java.util.Arrays;
import java.util.Random;

/** Runs of 512 calls drawn by fixed seeds, each answered by the program and by the model. */
public final class ModelTest {
    private static final int RUNS = 1500;
    private static final int CALLS = 512;
    private static final int MOST_SHOWN = 5;

    private static final String[] NAMES = {
        "parish", "miles", "person", "as", "husband", "father", "fact", "doubt", "forget", "law", "ends", "own",
        "settlement", "through", "could", "question", "order", "appeal", "ordered", "costs", "set", "list", "earns",
        "price", "relief", "week", "rate", "sheet", "put", "copy", "read", "keep", "back", "told",
    };
    // What each argument is: p parish, q parish or -1, h person, g person or -1, d day, 2 to 7 one of so many
    // kinds, f fact, l law, o order, w week, s sheet, b bits, n place in a sheet, W worth, M miles, P pounds,
    // N number, T set's v, E earned, V price, R rate, v any number.
    private static final String[] SHAPES = {
        "W", "ppM", "4pd", "h4", "hgd", "hg", "2hpPddd", "f2", "", "5Ndd", "ld", "hdd",
        "hdd", "hdd", "hdd", "hdd", "hppd", "od", "o6", "p", "2T", "hqw", "hE",
        "wV", "hw", "pw", "pR", "sbn", "snv", "snsnn", "s", "", "", "7",
    };
    private static final int[] WEIGHTS = {
        1, 3, 4, 2, 6, 6, 16, 10, 2, 5, 3, 6,
        8, 8, 3, 4, 5, 7, 4, 4, 3, 6, 4,
        6, 6, 6, 4, 3, 8, 4, 3, 1, 1, 4,
    };
    private static final int[] WILD = {
        Due.LEAST, Due.LEAST + 1, -100001, -10000, -61, -2, -1, 0, 1, 59, 60, 61, 99, 100, 999, 1000, 9999, 10000,
        10001, Due.MOST - 1, Due.MOST,
    };

    // Parishes, persons and laws that most runs have from the start.
    private static final int[] START = {0, 0, 0, 2, 2, 2, 2, 2, 9, 9, 9, 9, 9, 9};

    private final Random random;
    private final PoorDesk desk = new PoorDesk();
    private final Model model = new Model();
    private final int days;
    private final int wildness;

    private ModelTest(long seed) {
        random = new Random(seed);
        days = seed % 3 == 0 ? 6 : seed % 3 == 1 ? 20 : 90;
        wildness = seed % 4 == 0 ? 5 : 80;
    }

    public static void main(String[] args) {
        int shown = 0;
        for (int seed = 1; seed <= RUNS && shown < MOST_SHOWN; seed++) {
            if (!new ModelTest(seed).runsAlike(seed)) {
                shown++;
            }
        }
        Due.end();
    }

    private boolean runsAlike(int seed) {
        for (int i = 0; i < CALLS; i++) {
            int which = seed % 7 > 0 && i < START.length ? START[i] : draw();
            int[] a = arguments(which);
            int got = call(desk, which, a);
            int want = model.call(which, a);
            String text = "seed " + seed + ", call " + i + ": " + NAMES[which] + Arrays.toString(a);
            Due.is(which + 2, text, got, want);
            if (got != want) {
                return false;
            }
        }
        return true;
    }

    private int draw() {
        int at = random.nextInt(Arrays.stream(WEIGHTS).sum());
        int which = 0;
        while (at >= WEIGHTS[which]) {
            at -= WEIGHTS[which];
            which++;
        }
        return which;
    }

    private int[] arguments(int which) {
        String shape = SHAPES[which];
        int[] a = new int[shape.length()];
        for (int i = 0; i < a.length; i++) {
            a[i] = random.nextInt(wildness) == 0 ? wild() : tame(shape.charAt(i));
        }
        // Spans whose first day is above the last are drawn seldom.
        if ((which == 6 || which == 9) && random.nextInt(12) > 0) {
            int first = which == 6 ? 4 : 2;
            int low = Math.min(a[first], a[first + 1]);
            a[first + 1] = Math.max(a[first], a[first + 1]);
            a[first] = low;
        }
        // Most appeals come in time.
        if (which == 17 && random.nextInt(3) > 0) {
            a[1] = model.dayOfOrder(a[0]) + random.nextInt(70);
        }
        return a;
    }

    /** One of those that there are, seldom the next one. */
    private int oneOf(int what) {
        int there = model.call(33, new int[] {what});
        return random.nextInt(there + (there == 0 || random.nextInt(20) == 0 ? 1 : 0));
    }

    private int wild() {
        return random.nextBoolean() ? WILD[random.nextInt(WILD.length)] : random.nextInt();
    }

    private int tame(char what) {
        return switch (what) {
            case 'p' -> oneOf(0);
            case 'q' -> random.nextInt(4) == 0 ? -1 : random.nextInt(2);
            case 'h' -> oneOf(1);
            case 'g' -> random.nextInt(5) == 0 ? -1 : oneOf(1);
            case 'd' -> random.nextInt(days);
            case '2', '4', '5', '6', '7' -> random.nextInt(what - '0' + (random.nextInt(30) == 0 ? 1 : 0));
            case 'f' -> oneOf(2);
            case 'l' -> oneOf(3);
            case 'o' -> oneOf(4);
            case 'w' -> random.nextInt(random.nextInt(6) == 0 ? 61 : 4);
            case 's' -> random.nextInt(4);
            case 'b' -> new int[] {0, 8, 8, 8, 16, 16, 32}[random.nextInt(7)];
            case 'n' -> random.nextInt(random.nextInt(6) == 0 ? 62 : 8);
            case 'W' -> random.nextInt(random.nextInt(3) == 0 ? 10001 : 9);
            case 'M' -> random.nextInt(100);
            case 'P' -> random.nextInt(random.nextInt(4) == 0 ? 100 : 8);
            case 'N' -> random.nextInt(random.nextInt(3) == 0 ? days + 1 : 6);
            case 'T' -> random.nextInt(random.nextInt(3) == 0 ? 1001 : 22);
            case 'E' -> random.nextInt(random.nextInt(3) == 0 ? 1000 : 60);
            case 'V' -> random.nextInt(random.nextInt(3) == 0 ? 101 : 20);
            case 'R' -> random.nextInt(random.nextInt(3) == 0 ? 10001 : 40);
            default -> random.nextInt(300) - 40;
        };
    }

    private static int call(PoorDesk x, int which, int[] a) {
        return switch (which) {
            case 0 -> x.parish(a[0]);
            case 1 -> x.miles(a[0], a[1], a[2]);
            case 2 -> x.person(a[0], a[1], a[2]);
            case 3 -> x.as(a[0], a[1]);
            case 4 -> x.husband(a[0], a[1], a[2]);
            case 5 -> x.father(a[0], a[1]);
            case 6 -> x.fact(a[0], a[1], a[2], a[3], a[4], a[5], a[6]);
            case 7 -> x.doubt(a[0], a[1] != 0);
            case 8 -> x.forget();
            case 9 -> x.law(a[0], a[1], a[2], a[3]);
            case 10 -> x.ends(a[0], a[1]);
            case 11 -> x.own(a[0], a[1], a[2]);
            case 12 -> x.settlement(a[0], a[1], a[2]);
            case 13 -> x.through(a[0], a[1], a[2]);
            case 14 -> x.could(a[0], a[1], a[2]);
            case 15 -> x.question(a[0], a[1], a[2]);
            case 16 -> x.order(a[0], a[1], a[2], a[3]);
            case 17 -> x.appeal(a[0], a[1]);
            case 18 -> x.ordered(a[0], a[1]);
            case 19 -> x.costs(a[0]);
            case 20 -> x.set(a[0], a[1]);
            case 21 -> x.list(a[0], a[1], a[2]);
            case 22 -> x.earns(a[0], a[1]);
            case 23 -> x.price(a[0], a[1]);
            case 24 -> x.relief(a[0], a[1]);
            case 25 -> x.week(a[0], a[1]);
            case 26 -> x.rate(a[0], a[1]);
            case 27 -> x.sheet(a[0], a[1], a[2]);
            case 28 -> x.put(a[0], a[1], a[2]);
            case 29 -> x.copy(a[0], a[1], a[2], a[3], a[4]);
            case 30 -> x.read(a[0]);
            case 31 -> x.keep();
            case 32 -> x.back();
            default -> x.told(a[0]);
        };
    }
}
