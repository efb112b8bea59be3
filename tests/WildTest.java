import java.util.Random;

/** No call throws, for any numbers in any state, and beyond the 512th call neither. */
public final class WildTest {
    private static final int[] WILD = {
        Integer.MIN_VALUE, Integer.MIN_VALUE + 1, -65536, -1001, -41, -2, -1, 0, 1, 2, 3, 4, 5, 7, 8, 11, 12,
        13, 15, 16, 17, 38, 39, 40, 41, 99, 100, 101, 999, 1000, 1001, 10000, 65536, Integer.MAX_VALUE - 1,
        Integer.MAX_VALUE};
    private static final int CALLS = 200_000;

    private final Random random;
    private final SpanSketch x = new SpanSketch();

    private WildTest(long seed) {
        random = new Random(seed);
    }

    public static void main(String[] args) {
        for (long seed = 0; seed < 12; seed++) {
            WildTest t = new WildTest(seed);
            for (int i = 0; i < CALLS; i++) {
                t.call(random(t.random, 28));
                Check.due("bottom is above 0", t.x.bottom() > 0, true);
                Check.due("status", t.x.status() >= 0 && t.x.status() <= 7, true);
            }
        }
        Check.end();
    }

    private static int random(Random r, int below) {
        return r.nextInt(below);
    }

    private int n() {
        int lot = random.nextInt(10);
        return lot == 0 ? WILD[random.nextInt(WILD.length)] : lot < 4 ? random.nextInt(40) : random.nextInt(4);
    }

    private int most(int from, int to) {
        return random.nextInt(50) == 0 ? n() : from + random.nextInt(to - from + 1);
    }

    private void call(int kind) {
        switch (kind) {
            case 0: x.tray(n(), n(), n()); break;
            case 1: x.write(n(), n(), random.nextBoolean() ? n() : random.nextLong()); break;
            case 2: x.read(n(), n()); break;
            case 3: x.pour(n(), n(), n(), n(), n()); break;
            case 4: x.put(most(0, 2), most(-1, 39), most(1, 1000)); break;
            case 5: x.strike(most(0, 2), most(-1, 39), most(1, 1000)); break;
            case 6: x.pack(n(), n()); break;
            case 7: x.truly(n(), n()); break;
            case 8: x.rows(n(), n()); break;
            case 9: x.make(random.nextInt(8) == 0 ? n() : -1, most(1, 12), n(), n()); break;
            case 10: x.away(random.nextInt(20) == 0 ? n() : -1); break;
            case 11: x.sketch(n(), n()); break;
            case 12: x.span(n(), n(), n()); break;
            case 13: x.heavy(n(), n()); break;
            case 14: x.split(most(0, 2), most(0, 39)); break;
            case 15: x.melt(most(0, 2), most(0, 11)); break;
            case 16: x.keep(n()); break;
            case 17: x.together(most(0, 2), most(0, 2)); break;
            case 18: x.drifts(n()); break;
            case 19: x.guess(most(0, 2), most(0, 39), most(0, 39)); break;
            case 20: x.bound(most(0, 2), most(0, 39), most(0, 39), random.nextBoolean()); break;
            case 21: x.join(most(0, 2), most(0, 2)); break;
            case 22: x.harm(most(0, 2), most(0, 20), most(20, 39), most(0, 2), most(0, 20), most(20, 39)); break;
            case 23: x.sample(most(0, 2), most(1, 16), n()); break;
            case 24: x.drawn(most(0, 2), most(0, 15)); break;
            case 25: x.status(); break;
            case 26: x.top(); break;
            default: x.bottom(); break;
        }
    }
}
