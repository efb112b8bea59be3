import java.util.ArrayList;
import java.util.Arrays;
import java.util.List;
import java.util.Random;

/** MAKING (promise 14) against all ways that there are to lay few SPANS. */
public final class BestSpansTest {
    private static final int OBJECTS = 240;
    private static final int MOST_HEAVY = 8;

    private final Random random;
    private final int[] truth = new int[40];
    private final boolean[] heavy = new boolean[40];
    private int[] ends;
    private int[] best;
    private int greatest;
    private int together;

    private BestSpansTest(long seed) {
        random = new Random(seed);
    }

    public static void main(String[] args) {
        for (int seed = 0; seed < OBJECTS; seed++) {
            // All ways with 5 SPANS are 82,251, so they are tried seldom.
            int most = seed % 20 == 0 ? 5 : 4;
            new BestSpansTest(seed).compare(seed, most);
        }
        Check.end();
    }

    private void compare(int seed, int most) {
        SpanSketch x = new SpanSketch();
        levels(new int[] {2, 3, 12, 60}[seed % 4]);
        for (int v = 0; v < 40; v++) {
            if (truth[v] > 0) {
                Check.well("put", x, x.put(0, v, truth[v]));
            }
        }
        int b = 1 + random.nextInt(most);
        int d = 1 + random.nextInt(40);
        int n = random.nextInt(d + 1);
        chooseHeavy(n, d);
        ends = new int[b];
        lay(0, 0, 0, 0);
        String what = "object " + seed + ": make(0, " + b + ", " + n + ", " + d + ")";
        Check.well(what, x, x.make(0, b, n, d), greatest);
        Check.due(what + ", SPANS", x.sketch(0, 0), b);
        for (int k = 0; k < b; k++) {
            Check.due(what + ", end of SPAN " + k, x.span(0, k, 1), best[k]);
        }
        for (int v = 0; v < 40; v++) {
            Check.due(what + ", HEAVY " + v, x.heavy(0, v), heavy[v] ? truth[v] : -1);
        }
    }

    /** Runs of like counts, with some others between them, so that many ways are alike. */
    private void levels(int top) {
        int run = 1 + random.nextInt(6);
        int level = 0;
        for (int v = 0; v < 40; v++) {
            level = v % run == 0 ? random.nextInt(top) : level;
            truth[v] = level + (random.nextInt(5) == 0 ? random.nextInt(top) : 0);
        }
    }

    private void chooseHeavy(int n, int d) {
        int all = Arrays.stream(truth).sum();
        List<Integer> able = new ArrayList<>();
        for (int v = 0; v < 40; v++) {
            if (truth[v] > 0 && truth[v] * d >= all * n) {
                able.add(v);
            }
        }
        able.sort((v, w) -> truth[v] != truth[w] ? truth[w] - truth[v] : v - w);
        for (int v : able.subList(0, Math.min(MOST_HEAVY, able.size()))) {
            heavy[v] = true;
        }
    }

    /** Lays SPAN k in all ways, the lesser ends first: of like ways the first one stays. */
    private void lay(int k, int from, int error, int errors) {
        int left = ends.length - 1 - k;
        for (int to = left == 0 ? 39 : from; to <= 39 - left; to++) {
            int own = error(from, to);
            ends[k] = to;
            if (left == 0) {
                keepBest(Math.max(error, own), errors + own);
            } else {
                lay(k + 1, to + 1, Math.max(error, own), errors + own);
            }
        }
    }

    private void keepBest(int error, int errors) {
        if (best == null || error < greatest || error == greatest && errors < together) {
            best = ends.clone();
            greatest = error;
            together = errors;
        }
    }

    private int error(int from, int to) {
        int least = Integer.MAX_VALUE;
        int most = Integer.MIN_VALUE;
        for (int v = from; v <= to; v++) {
            if (!heavy[v]) {
                least = Math.min(least, truth[v]);
                most = Math.max(most, truth[v]);
            }
        }
        return most < least ? 0 : most - least;
    }
}
