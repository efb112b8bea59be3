/** The boundaries of a SAMPLE ("Terms" 3, promises 28 and 29), on both of their sides. */
public final class SampleEdgesTest {
    private static final int MIN = Integer.MIN_VALUE;
    private static final int MAX = Integer.MAX_VALUE;

    public static void main(String[] args) {
        sizes();
        seeds();
        placesDrawn();
        noneYet();
        firstOnesComeIn();
        fromItsBeginningOn();
        lotJustInAndJustOut();
        lotsOfAllSizes();
        asManyAsThereCanBe();
        oneByOne();
        nullRows();
        struckStay();
        anew();
        columnsApart();
        Check.end();
    }

    /** The LOTS of the document, on their own. */
    private static final class Lots {
        private long seed;

        Lots(int seed) {
            this.seed = seed;
        }

        int next(int t) {
            seed = (1_103_515_245L * seed + 12_345) % (1L << 31);
            return (int) (seed / 65_536 % t);
        }
    }

    /** "k ROWS (1 to 16)". */
    private static void sizes() {
        SpanSketch x = new SpanSketch();
        for (int k : new int[] {0, -1, 17, MIN, MAX}) {
            Check.refused("sample of " + k, x, x.sample(0, k, 1), 1);
        }
        for (int k : new int[] {1, 2, 15, 16}) {
            Check.well("sample of " + k, x, x.sample(0, k, 1));
            x.put(0, 5, k);
            Check.well("the last place", x, x.drawn(0, k - 1), 5);
            Check.refused("behind it", x, x.drawn(0, k), k == 16 ? 1 : 6);
            x.put(0, 5, 100);
            Check.refused("behind it still", x, x.drawn(0, k), k == 16 ? 1 : 6);
        }
    }

    /** "the SEED (0 to 2,147,483,647)". */
    private static void seeds() {
        SpanSketch x = new SpanSketch();
        for (int seed : new int[] {-1, MIN, -MAX}) {
            Check.refused("SEED " + seed, x, x.sample(0, 1, seed), 1);
            Check.refused("no SAMPLE", x, x.drawn(0, 0), 6);
        }
        for (int seed : new int[] {0, 1, MAX - 1, MAX}) {
            drawnLike(3, seed, 40);
        }
    }

    /** drawn(): places 0 to 15. */
    private static void placesDrawn() {
        SpanSketch x = new SpanSketch();
        x.sample(0, 16, 1);
        x.put(0, 5, 16);
        for (int k : new int[] {0, 15}) {
            Check.well("place " + k, x, x.drawn(0, k), 5);
        }
        for (int k : new int[] {-1, 16, MIN, MAX}) {
            Check.refused("place " + k, x, x.drawn(0, k), 1);
        }
    }

    /** "6: nothing is there, or there is no SAMPLE". */
    private static void noneYet() {
        SpanSketch x = new SpanSketch();
        x.put(0, 5, 20);
        for (int k : new int[] {0, 15}) {
            Check.refused("no SAMPLE", x, x.drawn(0, k), 6);
        }
        x.sample(0, 4, 1);
        Check.refused("nothing is there", x, x.drawn(0, 0), 6);
        x.put(0, 5, 3);
        Check.well("the third ROW", x, x.drawn(0, 2), 5);
        Check.refused("no fourth ROW", x, x.drawn(0, 3), 6);
        x.put(0, 5, 1);
        Check.well("the fourth ROW", x, x.drawn(0, 3), 5);
        Check.refused("no fifth place", x, x.drawn(0, 4), 6);
    }

    /** "the first k come in": each in its own place, and without a LOT. */
    private static void firstOnesComeIn() {
        for (int k = 1; k <= 16; k++) {
            SpanSketch x = new SpanSketch();
            x.sample(0, k, 77);
            for (int v = 0; v < k; v++) {
                x.put(0, v, 1);
                Check.well("the newest", x, x.drawn(0, v), v);
                Check.well("the first", x, x.drawn(0, 0), 0);
            }
            int lot = new Lots(77).next(k + 1);
            x.put(0, 39, 1);
            for (int place = 0; place < k; place++) {
                Check.well("of " + k, x, x.drawn(0, place), place == lot ? 39 : place);
            }
        }
    }

    /** "as they were put from its beginning on": ROWS before it are none of them. */
    private static void fromItsBeginningOn() {
        SpanSketch x = new SpanSketch();
        x.put(0, 9, 500);
        x.sample(0, 2, 1);
        Check.refused("none of those before", x, x.drawn(0, 0), 6);
        x.put(0, 8, 2);
        Check.well("the first", x, x.drawn(0, 0), 8);
        Check.well("the second", x, x.drawn(0, 1), 8);
        int lot = new Lots(1).next(3);
        x.put(0, 7, 1);
        Check.well("the LOT is by 3", x, x.drawn(0, 0), lot == 0 ? 7 : 8);
        Check.well("the LOT is by 3", x, x.drawn(0, 1), lot == 1 ? 7 : 8);
    }

    /** "if it is less than k, the ROW comes in place LOT": the LOTS k - 1 and k. */
    private static void lotJustInAndJustOut() {
        for (int k : new int[] {1, 4, 15, 16}) {
            for (int lot : new int[] {0, k - 1, k}) {
                int seed = 0;
                while (new Lots(seed).next(k + 1) != lot) {
                    seed++;
                }
                SpanSketch x = new SpanSketch();
                x.sample(0, k, seed);
                x.put(0, 3, k);
                x.put(0, 4, 1);
                for (int place = 0; place < k; place++) {
                    Check.well("LOT " + lot + " of " + k, x, x.drawn(0, place), place == lot ? 4 : 3);
                }
            }
        }
    }

    private static void lotsOfAllSizes() {
        for (int k = 1; k <= 16; k++) {
            drawnLike(k, 1, 200);
            drawnLike(k, 1_234_567 * k, 200);
        }
    }

    /** ROWS one by one, against the LOTS of the document. */
    private static void drawnLike(int k, int seed, int rows) {
        SpanSketch x = new SpanSketch();
        Check.well("sample", x, x.sample(0, k, seed));
        Lots lots = new Lots(seed);
        int[] places = new int[k];
        for (int t = 1; t <= rows; t++) {
            int value = t * 7 % 41 - 1;
            x.put(0, value, 1);
            int place = t <= k ? t - 1 : lots.next(t);
            if (place < k) {
                places[place] = value == -1 ? -2 : value;
            }
        }
        for (int place = 0; place < k; place++) {
            Check.well("place " + place + " of " + k + " by SEED " + seed, x, x.drawn(0, place), places[place]);
        }
    }

    /** As many ROWS as 512 calls put: t goes far above 10,000, and above all LOTS before their rest. */
    private static void asManyAsThereCanBe() {
        SpanSketch x = new SpanSketch();
        Lots lots = new Lots(3);
        int[] places = new int[16];
        x.sample(0, 16, 3);
        int t = 0;
        for (int round = 0; round < 230; round++) {
            int value = round % 40;
            x.put(0, value, 1000);
            x.strike(0, value, 1000);
            for (int i = 0; i < 1000; i++) {
                t++;
                int place = t <= 16 ? t - 1 : lots.next(t);
                if (place < 16) {
                    places[place] = value;
                }
            }
        }
        for (int k = 0; k < 16; k++) {
            Check.well("place " + k, x, x.drawn(0, k), places[k]);
        }
    }

    /** So many ROWS of one put are so many ROWS of the SAMPLE, those of a pack too. */
    private static void oneByOne() {
        SpanSketch x = new SpanSketch();
        SpanSketch y = new SpanSketch();
        x.sample(0, 16, 99);
        y.sample(0, 16, 99);
        x.tray(0, 0, 30);
        for (int i = 0; i < 30; i++) {
            x.write(0, i, 10);
        }
        x.put(0, 3, 20);
        x.pack(0, 0);
        x.put(0, -1, 25);
        for (int t = 0; t < 75; t++) {
            y.put(0, t < 20 ? 3 : t < 50 ? 10 : -1, 1);
        }
        for (int k = 0; k < 16; k++) {
            Check.well("the same", x, x.drawn(0, k), y.drawn(0, k));
        }
    }

    /** "a VALUE, or -2 for a NULL row". */
    private static void nullRows() {
        SpanSketch x = new SpanSketch();
        x.sample(0, 3, 1);
        x.put(0, -1, 1);
        x.put(0, 0, 1);
        x.put(0, 39, 1);
        Check.well("NULL row", x, x.drawn(0, 0), -2);
        Check.well("VALUE 0", x, x.drawn(0, 1), 0);
        Check.well("VALUE 39", x, x.drawn(0, 2), 39);
    }

    /** "ROWS struck stay", and no LOT is drawn by them. */
    private static void struckStay() {
        SpanSketch x = new SpanSketch();
        x.sample(0, 2, 5);
        x.put(0, 3, 2);
        x.strike(0, 3, 2);
        Check.well("stays", x, x.drawn(0, 0), 3);
        Check.well("stays", x, x.drawn(0, 1), 3);
        x.put(0, 4, 1);
        int lot = new Lots(5).next(3);
        for (int k = 0; k < 2; k++) {
            Check.well("the third ROW", x, x.drawn(0, k), lot == k ? 4 : 3);
        }
    }

    /** "begins anew": with a smaller or greater k, and the first ROWS come in again. */
    private static void anew() {
        SpanSketch x = new SpanSketch();
        x.sample(0, 16, 1);
        x.put(0, 3, 50);
        Check.well("sample", x, x.sample(0, 2, 1));
        for (int k : new int[] {0, 1, 2, 15}) {
            Check.refused("nothing of the other one", x, x.drawn(0, k), 6);
        }
        x.put(0, 4, 1);
        Check.well("the first ROW", x, x.drawn(0, 0), 4);
        Check.refused("nothing of the other one", x, x.drawn(0, 1), 6);
        x.put(0, 5, 1);
        Check.well("sample", x, x.sample(0, 16, 1));
        x.put(0, 6, 2);
        Check.well("the second ROW", x, x.drawn(0, 1), 6);
        Check.refused("nothing of the first one", x, x.drawn(0, 2), 6);
    }

    /** Each COLUMN has its own SAMPLE, with its own SEED. */
    private static void columnsApart() {
        SpanSketch x = new SpanSketch();
        for (int c = 0; c < 3; c++) {
            Check.refused("no SAMPLE", x, x.drawn(c, 0), 6);
            x.sample(c, 4, 11);
        }
        for (int t = 0; t < 60; t++) {
            for (int c = 0; c < 3; c++) {
                x.put(c, t % 40, c == 1 ? 2 : 1);
            }
        }
        for (int k = 0; k < 4; k++) {
            Check.well("COLUMNS 0 and 2 are alike", x, x.drawn(0, k), x.drawn(2, k));
        }
        SpanSketch y = new SpanSketch();
        y.sample(1, 4, 11);
        for (int t = 0; t < 60; t++) {
            y.put(1, t % 40, 2);
        }
        for (int k = 0; k < 4; k++) {
            Check.well("COLUMN 1 alone", x, x.drawn(1, k), y.drawn(1, k));
        }
    }
}
