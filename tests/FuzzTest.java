import java.util.Random;

/** Holds the class against the model: the same calls, made up by fixed seeds, the same answers. */
public final class FuzzTest {
    private static final int CALLS = 512;
    private static final int OBJECTS = 700;
    private static final int KINDS = 28;
    private static final String[] STATES = {
        "KEEPING did something", "a DOUBT at its greatest", "a COUNT below 0",
        "a COUNT in a SPAN without LONG", "12 SPANS after TOGETHER", "8 HEAVY VALUES"};
    private static final int[] REACHED = new int[STATES.length];

    private final Random random;
    private final SpanSketch mine = new SpanSketch();
    private final Model model = new Model();
    private final int[] weights = new int[KINDS];
    private final int values;
    private final int wildness;
    private final int most;
    private final boolean early;
    private String call;

    private FuzzTest(long seed) {
        random = new Random(seed);
        for (int i = 0; i < KINDS; i++) {
            weights[i] = random.nextInt(4) == 0 ? 12 : 2;
        }
        weights[4] += 6;
        weights[9] = 1 + random.nextInt(3);
        weights[10] = random.nextInt(2);
        values = random.nextInt(3) == 0 ? 3 + random.nextInt(10) : 40;
        wildness = random.nextInt(3) == 0 ? 20 : 60;
        most = random.nextInt(4) == 0 ? 1000 : 12;
        early = random.nextInt(3) > 0;
        if (early) {
            weights[10] = 0;
            weights[9] = 1;
            weights[14 + random.nextInt(4)] += 30;
            if (random.nextInt(3) == 0) {
                weights[14] += 60;
                weights[15] += 60;
                weights[17] = 0;
                weights[5] += 40;
            }
        }
    }

    public static void main(String[] args) {
        int[] seen = new int[KINDS * 8];
        for (int seed = 0; seed < OBJECTS; seed++) {
            if (!new FuzzTest(seed).run(seed, seen)) {
                System.exit(1);
            }
        }
        if (!reached(seen)) {
            System.exit(1);
        }
        System.out.println("class and model agree on " + OBJECTS + " objects of " + CALLS + " calls");
    }

    /** Every kind of call must have gone well many times: else the agreement says little. */
    private static boolean reached(int[] seen) {
        boolean all = true;
        for (int kind = 0; kind < KINDS; kind++) {
            StringBuilder line = new StringBuilder("call kind " + kind + ", by status:");
            for (int status = 0; status < 8; status++) {
                line.append(' ').append(seen[kind * 8 + status]);
            }
            System.out.println(line);
            all &= seen[kind * 8] >= 200;
        }
        for (int i = 0; i < STATES.length; i++) {
            System.out.println(STATES[i] + ": " + REACHED[i]);
            all &= REACHED[i] >= 20;
        }
        System.out.println(all ? "all was reached" : "something was reached too seldom");
        return all;
    }

    private boolean run(long seed, int[] seen) {
        for (int i = 0; i < CALLS; i++) {
            int kind = early && i < 30 ? (i < 20 ? 4 : 9) : kind();
            boolean like;
            try {
                like = step(kind);
            } catch (RuntimeException e) {
                e.printStackTrace(System.out);
                like = false;
            }
            like = like && mine.status() == model.status()
                && mine.top() == model.top() && mine.bottom() == model.bottom();
            if (!like) {
                System.out.println("seed " + seed + ", call " + i + ": " + call + "; status "
                    + mine.status() + ", model " + model.status() + "; fraction " + mine.top() + "/"
                    + mine.bottom() + ", model " + model.top() + "/" + model.bottom());
                return false;
            }
            seen[kind * 8 + mine.status()]++;
        }
        return true;
    }

    private static boolean mark(int state, boolean holds) {
        REACHED[state] += holds ? 1 : 0;
        return holds;
    }

    private int kind() {
        int sum = 0;
        for (int w : weights) {
            sum += w;
        }
        int lot = random.nextInt(sum);
        int kind = 0;
        while (lot >= weights[kind]) {
            lot -= weights[kind++];
        }
        return kind;
    }

    private boolean same(String what, long one, long two) {
        call = what + " answered " + one + ", model " + two;
        return one == two;
    }

    private boolean same(String what, boolean one, boolean two) {
        return same(what, one ? 1 : 0, two ? 1 : 0);
    }

    /** Mostly a number that can be, at times one just outside, at times an extreme one. */
    private int number(int from, int to) {
        if (random.nextInt(wildness) > 0) {
            return from + random.nextInt(to - from + 1);
        }
        int[] wild = {from - 1, to + 1, Integer.MIN_VALUE, Integer.MAX_VALUE, -1, -2};
        return wild[random.nextInt(wild.length)];
    }

    private int column() {
        return number(0, 2);
    }

    private int value() {
        return random.nextInt(8) == 0 ? number(-1, 39) : random.nextInt(values);
    }

    private int many() {
        return random.nextInt(3) == 0 ? number(1, 1000) : 1 + random.nextInt(most);
    }

    private int cell() {
        return random.nextInt(3) == 0 ? number(0, 99) : random.nextInt(6);
    }

    private long cellNumber() {
        return random.nextInt(12) == 0 ? random.nextLong() : number(-1, 39);
    }

    private boolean step(int kind) {
        int c = column();
        int o = column();
        int t = number(0, 3);
        int v = value();
        int a = number(0, 39);
        int b = random.nextInt(20) == 0 ? number(0, 39) : Math.max(a, number(0, 39));
        switch (kind) {
            case 0: {
                int sort = number(0, 3);
                int many = random.nextInt(3) == 0 ? number(0, 100) : random.nextInt(7);
                return same("tray " + t + " " + sort + " " + many,
                    mine.tray(t, sort, many), model.tray(t, sort, many));
            }
            case 1: {
                int place = cell();
                long x = cellNumber();
                return same("write " + t + " " + place + " " + x,
                    mine.write(t, place, x), model.write(t, place, x));
            }
            case 2: {
                int place = cell();
                return same("read " + t + " " + place, mine.read(t, place), model.read(t, place));
            }
            case 3: {
                int to = number(0, 3);
                int place = cell();
                int at = cell();
                int many = cell();
                return same("pour " + t + " " + place + " " + to + " " + at + " " + many,
                    mine.pour(t, place, to, at, many), model.pour(t, place, to, at, many));
            }
            case 4: {
                int many = many();
                return same("put " + c + " " + v + " " + many, mine.put(c, v, many), model.put(c, v, many));
            }
            case 5: {
                int many = Math.min(many(), random.nextInt(5) > 0 ? Math.max(1, model.truly(c, v)) : 1000);
                return same("strike " + c + " " + v + " " + many,
                    mine.strike(c, v, many), model.strike(c, v, many));
            }
            case 6:
                return same("pack " + c + " " + t, mine.pack(c, t), model.pack(c, t));
            case 7:
                return same("truly " + c + " " + v, mine.truly(c, v), model.truly(c, v));
            case 8: {
                int what = number(0, 2);
                return same("rows " + c + " " + what, mine.rows(c, what), model.rows(c, what));
            }
            default:
                return step(kind, c, o, v, a, b);
        }
    }

    private boolean step(int kind, int c, int o, int v, int a, int b) {
        int k = number(0, 11);
        switch (kind) {
            case 9: {
                int pieces = number(1, 12);
                int d = random.nextBoolean() ? number(1, 1000) : 1 + random.nextInt(10);
                int n = random.nextInt(4) == 0 ? number(0, Math.min(Math.max(0, d), 1000)) : Math.min(Math.max(d, 0), 1);
                return same("make " + c + " " + pieces + " " + n + " " + d,
                    mine.make(c, pieces, n, d), model.make(c, pieces, n, d));
            }
            case 10:
                return same("away " + c, mine.away(c), model.away(c));
            case 11: {
                int what = number(0, 3);
                return same("sketch " + c + " " + what, mine.sketch(c, what), model.sketch(c, what));
            }
            case 12: {
                int what = number(0, 4);
                return same("span " + c + " " + k + " " + what, mine.span(c, k, what), model.span(c, k, what));
            }
            case 13:
                return same("heavy " + c + " " + v, mine.heavy(c, v), model.heavy(c, v));
            case 14:
                return same("split " + c + " " + a, mine.split(c, a), model.split(c, a));
            case 15:
                return same("melt " + c + " " + k, mine.melt(c, k), model.melt(c, k));
            case 16: {
                int kept = mine.keep(c);
                mark(0, kept == 1);
                return same("keep " + c, kept, model.keep(c));
            }
            case 17: {
                int spans = mine.together(c, o);
                mark(4, spans == 12);
                return same("together " + c + " " + o, spans, model.together(c, o));
            }
            case 18:
                return same("drifts " + c, mine.drifts(c), model.drifts(c));
            case 19:
                return same("guess " + c + " " + a + " " + b, mine.guess(c, a, b), model.guess(c, a, b));
            case 20: {
                boolean high = random.nextBoolean();
                return same("bound " + c + " " + a + " " + b + " " + high,
                    mine.bound(c, a, b, high), model.bound(c, a, b, high));
            }
            case 21:
                return same("join " + c + " " + o, mine.join(c, o), model.join(c, o));
            case 22: {
                int from = number(0, 39);
                int to = Math.max(from, number(0, 39));
                return same("harm " + c + " " + a + " " + b + " " + o + " " + from + " " + to,
                    mine.harm(c, a, b, o, from, to), model.harm(c, a, b, o, from, to));
            }
            case 23: {
                int places = number(1, 16);
                int seed = random.nextInt(20) == 0 ? random.nextInt() : random.nextInt() & Integer.MAX_VALUE;
                return same("sample " + c + " " + places + " " + seed,
                    mine.sample(c, places, seed), model.sample(c, places, seed));
            }
            case 24: {
                int place = number(0, 15);
                return same("drawn " + c + " " + place, mine.drawn(c, place), model.drawn(c, place));
            }
            case 25:
                return allSpans(random.nextInt(3));
            case 26:
                return allDrawn(random.nextInt(3));
            default:
                return allDoubled(c, a);
        }
    }

    private boolean allSpans(int c) {
        for (int k = 0; k < 12; k++) {
            for (int what = 0; what < 5; what++) {
                if (!same("span " + c + " " + k + " " + what, mine.span(c, k, what), model.span(c, k, what))) {
                    return false;
                }
            }
        }
        for (int k = 0; k < model.sketch(c, 0); k++) {
            mark(1, model.span(c, k, 3) == 1_000_000);
            mark(2, model.span(c, k, 2) < 0);
            mark(3, model.span(c, k, 4) == 0 && model.span(c, k, 2) != 0);
        }
        mark(5, model.sketch(c, 1) == 8);
        for (int v = 0; v < 40; v++) {
            if (!same("heavy " + c + " " + v, mine.heavy(c, v), model.heavy(c, v))
                || !same("truly " + c + " " + v, mine.truly(c, v), model.truly(c, v))) {
                return false;
            }
        }
        return true;
    }

    /** Each SPLIT with its MELT makes more of a DOUBT. */
    private boolean allDoubled(int c, int v) {
        boolean like = true;
        for (int i = 0; i < 5 && like; i++) {
            int k = mine.split(c, v);
            like = same("split " + c + " " + v, k, model.split(c, v))
                && same("melt " + c + " " + k, mine.melt(c, k), model.melt(c, k));
        }
        return like;
    }

    private boolean allDrawn(int c) {
        for (int k = 15; k >= 0; k--) {
            if (!same("drawn " + c + " " + k, mine.drawn(c, k), model.drawn(c, k))) {
                return false;
            }
        }
        return true;
    }
}
