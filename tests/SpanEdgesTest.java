/** The boundaries of SPLIT, MELT, KEEPING and of ROWS that come and go ("Terms" 2), on both sides. */
public final class SpanEdgesTest {
    private static final int MIN = Integer.MIN_VALUE;
    private static final int MAX = Integer.MAX_VALUE;

    public static void main(String[] args) {
        rowsOfSpans();
        rowsOfHeavy();
        countBelowNone();
        splitPlaces();
        splitUpTo12();
        splitLeftLongNone();
        splitRightLongNone();
        splitBothLongNone();
        splitRoundedDown();
        splitRoundedDownBelowNone();
        splitDoubts();
        splitDoubtLimit();
        meltPlaces();
        meltDoubtLimit();
        doubtsStayAtLimit();
        keepWithoutPair();
        keepBetweenBelowNone();
        keepAboveTwice();
        keepAboveTwiceBelowNone();
        keepLongOfGreatest();
        keepFirstGreatest();
        keepFirstPair();
        keepHalf();
        keepHalfWithoutHeavy();
        keepOf12();
        driftsOfRows();
        driftsSince();
        Check.end();
    }

    /** "the COUNT of the SPAN in which it is": on both sides of an end. */
    private static void rowsOfSpans() {
        SpanSketch x = new SpanSketch();
        Made.emptySpans(x, 0, 9, 19);
        int[] values = {0, 9, 10, 19, 20, 39};
        int[] spans = {0, 0, 1, 1, 2, 2};
        for (int i = 0; i < values.length; i++) {
            int count = x.span(0, spans[i], 2);
            x.put(0, values[i], 1 + i);
            Check.well("put", x, x.span(0, spans[i], 2), count + 1 + i);
            x.strike(0, values[i], 1);
            Check.well("strike", x, x.span(0, spans[i], 2), count + i);
        }
        Check.well("COUNTS", x, x.sketch(0, 3), 15);
        x.put(0, -1, 9);
        x.strike(0, -1, 9);
        x.put(1, 9, 9);
        Check.well("NULL rows, and other COLUMNS, are in no SPAN", x, x.sketch(0, 3), 15);
        Check.well("no DOUBTS", x, x.sketch(0, 2), 0);
    }

    private static void rowsOfHeavy() {
        SpanSketch x = new SpanSketch();
        x.put(0, 5, 2);
        x.make(0, 1, 1, 1);
        x.put(0, 5, 3);
        Check.well("put", x, x.heavy(0, 5), 5);
        x.strike(0, 5, 5);
        Check.well("strike of all", x, x.heavy(0, 5), 0);
        Check.well("HEAVY still", x, x.sketch(0, 1), 1);
        x.put(0, 4, 1);
        Check.well("its neighbour is not", x, x.heavy(0, 5), 0);
        Check.well("COUNTS", x, x.sketch(0, 3), 1);
    }

    /** "(a COUNT can be below 0 then)"; "STATUS tells NONE from -1". */
    private static void countBelowNone() {
        SpanSketch x = Made.oneSpan(2, 2);
        x.split(0, 1);
        Check.well("COUNT of 4 by 20", x, x.span(0, 0, 2), 0);
        x.strike(0, 0, 1);
        Check.well("COUNT below 0", x, x.span(0, 0, 2), -1);
        Check.refused("NONE", x, x.span(0, 2, 2), 1);
        x.strike(0, 0, 1);
        x.strike(0, 1, 2);
        Check.well("COUNT below 0", x, x.span(0, 0, 2), -4);
        x.put(0, 1, 5);
        Check.well("COUNT above 0", x, x.span(0, 0, 2), 1);
    }

    /** split(): VALUES 0 to 39; "6: it is the last one" of its SPAN. */
    private static void splitPlaces() {
        SpanSketch x = new SpanSketch();
        x.make(0, 1, 1, 1);
        for (int v : new int[] {-1, 40, MIN, MAX}) {
            Check.refused("VALUE " + v, x, x.split(0, v), 1);
        }
        Check.refused("behind 39", x, x.split(0, 39), 6);
        Check.well("behind 38", x, x.split(0, 38), 0);
        Check.refused("behind 38 again", x, x.split(0, 38), 6);
        Check.refused("behind 39 still", x, x.split(0, 39), 6);
        Check.well("behind 0", x, x.split(0, 0), 0);
        Check.refused("behind 0 again", x, x.split(0, 0), 6);
        Check.well("behind 1", x, x.split(0, 1), 1);
        Check.well("behind 37", x, x.split(0, 37), 2);
        Check.span(x, 0, 2, 2, 37, 0, 0, 36);
        Check.span(x, 0, 3, 38, 38, 0, 0, 1);
        Check.span(x, 0, 4, 39, 39, 0, 0, 1);
    }

    /** "SPANS, at most 12"; "6: or there are 12". */
    private static void splitUpTo12() {
        SpanSketch x = new SpanSketch();
        x.make(0, 10, 1, 1);
        Check.well("the 11th", x, x.split(0, 20), 9);
        Check.well("the 12th", x, x.split(0, 30), 10);
        Check.refused("there are 12", x, x.split(0, 25), 6);
        Check.refused("there are 12, and it is the last one", x, x.split(0, 30), 6);
        Check.well("SPANS", x, x.sketch(0, 0), 12);
        x.melt(0, 0);
        Check.well("the 12th again", x, x.split(0, 25), 9);
        Check.refused("there are 12", x, x.split(0, 0), 6);
    }

    /** "if the left piece has LONG 0, it has COUNT 0 and DOUBT 0, the right one all". */
    private static void splitLeftLongNone() {
        SpanSketch x = heavyEnds();
        Check.well("split", x, x.split(0, 1), 0);
        Check.span(x, 0, 0, 0, 1, 0, 0, 0);
        Check.span(x, 0, 1, 2, 39, 10, 10, 36);
        SpanSketch y = heavyEnds();
        Check.well("left has LONG 1", y, y.split(0, 2), 0);
        Check.span(y, 0, 0, 0, 2, 0, 20, 1);
        Check.span(y, 0, 1, 3, 39, 10, 10, 35);
    }

    /** "else, if the right one has LONG 0, likewise the other way round". */
    private static void splitRightLongNone() {
        SpanSketch x = heavyEnds();
        Check.well("split", x, x.split(0, 37), 0);
        Check.span(x, 0, 0, 0, 37, 10, 10, 36);
        Check.span(x, 0, 1, 38, 39, 0, 0, 0);
        SpanSketch y = heavyEnds();
        Check.well("right has LONG 1", y, y.split(0, 36), 0);
        Check.span(y, 0, 0, 0, 36, 9, 11, 35);
        Check.span(y, 0, 1, 37, 39, 1, 19, 1);
    }

    /** One SPAN of COUNT 10, DOUBT 10 and LONG 36: the VALUES 0, 1, 38 and 39 are HEAVY. */
    private static SpanSketch heavyEnds() {
        SpanSketch x = new SpanSketch();
        for (int v : new int[] {0, 1, 38, 39}) {
            x.put(0, v, 1);
        }
        x.make(0, 1, 1, 4);
        Made.rows(x, 0, 19, 10);
        x.split(0, 19);
        x.melt(0, 0);
        Check.span(x, 0, 0, 0, 39, 10, 10, 36);
        return x;
    }

    /** Both of LONG 0: the left piece is asked first. */
    private static void splitBothLongNone() {
        SpanSketch x = new SpanSketch();
        x.put(0, 0, 1);
        x.put(0, 1, 1);
        x.make(0, 1, 1, 2);
        x.split(0, 1);
        x.put(1, 20, 40);
        x.put(1, 21, 40);
        x.make(1, 1, 1, 1);
        Check.well("together", x, x.together(0, 1), 2);
        Check.span(x, 0, 0, 0, 1, 4, 76, 0);
        Check.well("split", x, x.split(0, 0), 0);
        Check.span(x, 0, 0, 0, 0, 0, 0, 0);
        Check.span(x, 0, 1, 1, 1, 4, 76, 0);
        Check.well("split of LONG 38", x, x.split(0, 20), 2);
        Check.span(x, 0, 2, 2, 20, 38, 114, 19);
    }

    /** "COUNT times its LONG by the LONG of all, rounded down": just whole, just below, just above. */
    private static void splitRoundedDown() {
        int[] counts = {0, 1, 3, 4, 5, 7, 8};
        for (int count : counts) {
            SpanSketch x = new SpanSketch();
            x.make(0, 1, 1, 1);
            Made.rows(x, 0, 39, count);
            Check.well("split by a fourth", x, x.split(0, 9), 0);
            Check.well("left", x, x.span(0, 0, 2), count / 4);
            Check.well("right", x, x.span(0, 1, 2), count - count / 4);
        }
        SpanSketch x = new SpanSketch();
        x.make(0, 1, 1, 1);
        Made.rows(x, 0, 39, 10_000);
        Check.well("split", x, x.split(0, 38), 0);
        Check.span(x, 0, 0, 0, 38, 9750, 9750, 39);
        Check.span(x, 0, 1, 39, 39, 250, 9750, 1);
    }

    /** "(towards the lesser number)": COUNTS from 0 to -7 of LONG 3. */
    private static void splitRoundedDownBelowNone() {
        int[] lefts = {0, -1, -1, -1, -2, -2, -2, -3};
        for (int below = 0; below < lefts.length; below++) {
            SpanSketch x = belowNone(below);
            Check.span(x, 0, 0, 0, 2, -below, below, 3);
            Check.well("split", x, x.split(0, 0), 0);
            int right = -below - lefts[below];
            Check.span(x, 0, 0, 0, 0, lefts[below], -lefts[below], 1);
            Check.span(x, 0, 1, 1, 2, right, -right, 2);
        }
    }

    /** A SPAN of the VALUES 0 to 2 that gave all its ROWS (13 at most) to the next one, and lost them. */
    private static SpanSketch belowNone(int many) {
        SpanSketch x = new SpanSketch();
        Made.emptySpans(x, 0);
        Made.rows(x, 0, 0, many);
        x.split(0, 2);
        Made.struck(x, 0, 0, many);
        return x;
    }

    /** "the greater of its own COUNT and (COUNT and DOUBT of all, less its own COUNT), 0 at least". */
    private static void splitDoubts() {
        splitOf(0, 19, 0, 0);
        splitOf(1, 19, 1, 1);
        splitOf(10, 19, 5, 5);
        splitOf(10, 29, 7, 7);
        splitOf(10, 38, 9, 9);
        splitOf(11, 19, 6, 6);
        splitOf(2, 0, 2, 2);
        SpanSketch x = new SpanSketch();
        x.make(0, 1, 1, 1);
        Made.doubt(x, 0, 19, 6);
        x.put(0, 0, 8);
        Check.span(x, 0, 0, 0, 39, 8, 6, 40);
        Check.well("split", x, x.split(0, 34), 0);
        Check.span(x, 0, 0, 0, 34, 7, 7, 35);
        Check.span(x, 0, 1, 35, 39, 1, 13, 5);
        x.melt(0, 0);
        Check.span(x, 0, 0, 0, 39, 8, 20, 40);
        Check.well("split", x, x.split(0, 34), 0);
        Check.span(x, 0, 0, 0, 34, 7, 21, 35);
        Check.span(x, 0, 1, 35, 39, 1, 27, 5);
    }

    private static void splitOf(int count, int value, int leftDoubt, int rightDoubt) {
        SpanSketch x = new SpanSketch();
        x.make(0, 1, 1, 1);
        Made.rows(x, 0, 39, count);
        Check.well("split", x, x.split(0, value), 0);
        Check.well("DOUBT of the left piece of " + count, x, x.span(0, 0, 3), leftDoubt);
        Check.well("DOUBT of the right piece of " + count, x, x.span(0, 1, 3), rightDoubt);
    }

    /** A SKETCH of one SPAN of LONG 40. */
    private static SpanSketch oneWith(int count, int doubt) {
        SpanSketch x = new SpanSketch();
        x.make(0, 1, 1, 1);
        Made.doubt(x, 0, 19, doubt);
        Made.rows(x, 0, 39, count);
        Check.span(x, 0, 0, 0, 39, count, doubt, 40);
        return x;
    }

    /** "Where any DOUBT (of a SPLIT ..) would be above 1,000,000, it is 1,000,000": of either piece. */
    private static void splitDoubtLimit() {
        int[] firsts = {999_999, 1_000_000, 1_000_000, 1_000_000};
        int[] lasts = {999_999, 999_999, 1_000_000, 1_000_000};
        for (int count = 0; count < 4; count++) {
            SpanSketch x = oneWith(count, 999_999);
            Check.well("split", x, x.split(0, 0), 0);
            Check.span(x, 0, 0, 0, 0, 0, firsts[count], 1);
            Check.span(x, 0, 1, 1, 39, count, 999_999, 39);
            SpanSketch y = oneWith(count, 999_999);
            Check.well("split", y, y.split(0, 38), 0);
            Check.well("left piece", y, y.span(0, 0, 3), firsts[count]);
            Check.well("right piece", y, y.span(0, 1, 3), lasts[count]);
        }
    }

    /** melt(): "6: there are no two". */
    private static void meltPlaces() {
        SpanSketch x = new SpanSketch();
        for (int b = 1; b <= 12; b++) {
            x.make(0, b, 1, 1);
            for (int k : new int[] {-1, b - 1, b, MIN, MAX}) {
                Check.refused("melt of " + k, x, x.melt(0, k), 6);
            }
            Check.well("as many still", x, x.sketch(0, 0), b);
            if (b >= 2) {
                Check.well("the last two", x, x.melt(0, b - 2));
                Check.well("one less", x, x.sketch(0, 0), b - 1);
                Check.span(x, 0, b - 2, b - 2, 39, 0, 0, 42 - b);
            }
            if (b >= 3) {
                Check.well("the first two", x, x.melt(0, 0));
                Check.well("first VALUE", x, x.span(0, 0, 0), 0);
                Check.well("last VALUE", x, x.span(0, 0, 1), b == 3 ? 39 : 1);
            }
        }
    }

    /** The same of a MELT. */
    private static void meltDoubtLimit() {
        int[] counts = {1, 2, 1, 0};
        int[] doubts = {499_999, 499_999, 500_000, 600_000};
        int[] melted = {999_999, 1_000_000, 1_000_000, 1_000_000};
        for (int i = 0; i < counts.length; i++) {
            SpanSketch x = oneWith(counts[i], doubts[i]);
            x.split(0, 19);
            Check.well("DOUBTS", x, x.sketch(0, 2), 2 * doubts[i] + counts[i]);
            Check.well("melt", x, x.melt(0, 0));
            Check.span(x, 0, 0, 0, 39, counts[i], melted[i], 40);
        }
    }

    private static void doubtsStayAtLimit() {
        SpanSketch x = oneWith(0, 1_000_000);
        Check.well("split", x, x.split(0, 19), 0);
        Check.span(x, 0, 0, 0, 19, 0, 1_000_000, 20);
        Check.span(x, 0, 1, 20, 39, 0, 1_000_000, 20);
        Check.well("all DOUBTS together have no limit", x, x.sketch(0, 2), 2_000_000);
        x.put(0, 0, 1);
        Check.well("melt", x, x.melt(0, 0));
        Check.span(x, 0, 0, 0, 39, 1, 1_000_000, 40);
        for (int v = 0; v < 11; v++) {
            x.split(0, v);
        }
        Check.well("all DOUBTS of 12", x, x.sketch(0, 2), 12_000_000);
    }

    /** "PAIR the two neighbours, neither of them GREATEST": "If there are both". */
    private static void keepWithoutPair() {
        for (int spans = 1; spans <= 3; spans++) {
            for (int greatest = 0; greatest < spans; greatest++) {
                SpanSketch x = new SpanSketch();
                int[][] ends = {{}, {9}, {9, 19}};
                Made.emptySpans(x, 0, ends[spans - 1]);
                x.put(0, 10 * greatest, 50);
                int did = spans == 3 && greatest != 1 ? 1 : 0;
                Check.well("keep of " + spans + " SPANS, of " + greatest, x, x.keep(0), did);
                Check.well("as many SPANS", x, x.sketch(0, 0), spans);
                Check.well("DOUBTS", x, x.sketch(0, 2), 50 * did);
            }
        }
    }

    /** "neither of them GREATEST": not even with a neighbour so far below 0 that they were the least. */
    private static void keepBetweenBelowNone() {
        SpanSketch x = belowNone(13);
        x.split(0, 20);
        x.put(0, 3, 5);
        SpanSketch y = new SpanSketch();
        Made.emptySpans(y, 0);
        y.put(0, 39, 5);
        y.split(0, 36);
        y.strike(0, 39, 5);
        y.split(0, 10);
        int[] left = {-13, 11, 7};
        int[] right = {1, 3, -4};
        for (int k = 0; k < 3; k++) {
            Check.well("COUNT", x, x.span(0, k, 2), left[k]);
            Check.well("COUNT", y, y.span(0, k, 2), right[k]);
        }
        Check.well("the left neighbour is below 0", x, x.keep(0), 0);
        Check.well("the right neighbour is below 0", y, y.keep(0), 0);
    }

    /** "GREATEST's COUNT is above twice PAIR's COUNTS together". */
    private static void keepAboveTwice() {
        for (int pair = 0; pair < 4; pair++) {
            SpanSketch x = new SpanSketch();
            Made.emptySpans(x, 0, 9, 19);
            Made.rows(x, 0, 19, pair / 2);
            Made.rows(x, 0, 39, pair - pair / 2);
            Made.rows(x, 0, 0, 2 * pair);
            Check.well("twice " + pair, x, x.keep(0), 0);
            Check.span(x, 0, 0, 0, 9, 2 * pair, 0, 10);
            x.put(0, 0, 1);
            Check.well("above twice " + pair, x, x.keep(0), 1);
            Check.span(x, 0, 2, 10, 39, pair, 0, 30);
        }
    }

    /** -8 is not above twice -4, -7 is. */
    private static void keepAboveTwiceBelowNone() {
        SpanSketch x = new SpanSketch();
        Made.emptySpans(x, 0);
        x.put(0, 39, 107);
        x.split(0, 2);
        x.strike(0, 39, 107);
        x.put(0, 0, 28);
        x.split(0, 0);
        x.split(0, 1);
        x.strike(0, 0, 28);
        int[] counts = {-16, 12, 12, -8};
        for (int k = 0; k < 4; k++) {
            Check.well("COUNT", x, x.span(0, k, 2), counts[k]);
        }
        Check.well("-8 and -4", x, x.keep(0), 0);
        x.put(0, 39, 1);
        Check.well("-7 and -4", x, x.keep(0), 1);
        Check.well("PAIR", x, x.span(0, 0, 2), -4);
        Check.well("its end", x, x.span(0, 0, 1), 1);
        Check.well("left piece of 19 by 37", x, x.span(0, 2, 2), -4);
        Check.well("its end", x, x.span(0, 2, 1), 21);
        Check.well("right piece", x, x.span(0, 3, 2), -3);
    }

    /** "of those with LONG 2 and more": HEAVY VALUES do not count. */
    private static void keepLongOfGreatest() {
        SpanSketch x = new SpanSketch();
        Made.emptySpans(x, 0, 9, 10, 12, 13);
        x.put(0, 10, 50);
        x.put(0, 11, 9);
        Check.well("keep", x, x.keep(0), 1);
        Check.span(x, 0, 1, 10, 10, 50, 0, 1);
        Check.span(x, 0, 2, 11, 11, 4, 5, 1);
        Check.span(x, 0, 3, 12, 12, 5, 5, 1);
        Check.span(x, 0, 4, 13, 39, 0, 0, 27);
        SpanSketch y = new SpanSketch();
        y.put(0, 11, 1);
        y.make(0, 1, 1, 1);
        for (int end : new int[] {9, 10, 12, 13}) {
            y.split(0, end);
        }
        y.put(0, 12, 9);
        y.put(0, 20, 2);
        Check.well("keep", y, y.keep(0), 1);
        Check.span(y, 0, 0, 0, 10, 0, 0, 11);
        Check.span(y, 0, 1, 11, 12, 9, 0, 1);
        Check.span(y, 0, 2, 13, 13, 0, 0, 1);
        Check.span(y, 0, 3, 14, 26, 1, 1, 13);
        Check.span(y, 0, 4, 27, 39, 1, 1, 13);
    }

    /** "the greatest COUNT .., the first such". */
    private static void keepFirstGreatest() {
        for (int more = 0; more < 2; more++) {
            SpanSketch x = new SpanSketch();
            Made.emptySpans(x, 0, 9, 19, 29);
            x.put(0, 0, 5);
            x.put(0, 10, 1);
            x.put(0, 30, 5 + more);
            Check.well("keep", x, x.keep(0), 1);
            Check.well("the first is SPLIT, or the greater one", x, x.span(0, 0, 1), more == 0 ? 4 : 9);
            Check.well("PAIR", x, x.span(0, more == 0 ? 2 : 1, 1), 29);
            Check.well("the last one", x, x.span(0, 3, 0), more == 0 ? 30 : 35);
        }
    }

    /** "the least COUNTS together, the first such". */
    private static void keepFirstPair() {
        for (int last = 1; last <= 2; last++) {
            SpanSketch x = new SpanSketch();
            Made.emptySpans(x, 0, 9, 19, 29, 34);
            x.put(0, 0, 20);
            x.put(0, 10, 1);
            x.put(0, 20, 2);
            x.put(0, 30, 1);
            x.put(0, 35, last);
            Check.well("keep", x, x.keep(0), 1);
            int[] ends = last == 2 ? new int[] {4, 9, 29, 34, 39} : new int[] {4, 9, 19, 29, 39};
            for (int k = 0; k < 5; k++) {
                Check.well("end of SPAN " + k, x, x.span(0, k, 1), ends[k]);
            }
        }
    }

    /** "its first VALUE with which the left piece has half of its LONG or more". */
    private static void keepHalf() {
        for (int length = 2; length <= 7; length++) {
            SpanSketch x = new SpanSketch();
            Made.emptySpans(x, 0, length - 1, 30);
            x.put(0, 0, 10);
            int left = (length + 1) / 2;
            int count = 10 * left / length;
            Check.well("keep", x, x.keep(0), 1);
            Check.span(x, 0, 0, 0, left - 1, count, Math.max(count, 10 - count), left);
            Check.span(x, 0, 1, left, length - 1, 10 - count, Math.max(count, 10 - count), length - left);
            Check.span(x, 0, 2, length, 39, 0, 0, 40 - length);
        }
    }

    /** HEAVY VALUES are none of its half; those behind it go to the right piece. */
    private static void keepHalfWithoutHeavy() {
        SpanSketch x = new SpanSketch();
        for (int v : new int[] {0, 2, 4}) {
            x.put(0, v, 1);
        }
        x.make(0, 1, 1, 3);
        x.split(0, 6);
        x.split(0, 30);
        x.put(0, 1, 10);
        Check.span(x, 0, 0, 0, 6, 10, 0, 4);
        Check.well("keep", x, x.keep(0), 1);
        Check.span(x, 0, 0, 0, 3, 5, 5, 2);
        Check.span(x, 0, 1, 4, 6, 5, 5, 2);
        Check.span(x, 0, 2, 7, 39, 0, 0, 33);
    }

    /** Of 12 SPANS there are 12 afterwards. */
    private static void keepOf12() {
        SpanSketch x = new SpanSketch();
        x.make(0, 12, 1, 1);
        x.put(0, 39, 8);
        x.put(0, 0, 1);
        Check.well("keep", x, x.keep(0), 1);
        Check.well("SPANS", x, x.sketch(0, 0), 12);
        Check.span(x, 0, 0, 0, 0, 1, 0, 1);
        Check.span(x, 0, 1, 1, 2, 0, 0, 2);
        Check.span(x, 0, 9, 10, 10, 0, 0, 1);
        Check.span(x, 0, 10, 11, 25, 4, 4, 15);
        Check.span(x, 0, 11, 26, 39, 4, 4, 14);
    }

    /** "How many ROWS with VALUES were put or struck". */
    private static void driftsOfRows() {
        SpanSketch x = new SpanSketch();
        x.put(0, 5, 9);
        x.make(0, 1, 1, 1);
        Check.well("ROWS before it are none", x, x.drifts(0), 0);
        x.put(0, 5, 1);
        x.put(0, 6, 2);
        Check.well("of HEAVY VALUES too", x, x.drifts(0), 3);
        x.strike(0, 5, 3);
        x.strike(0, 6, 1);
        Check.well("struck ones too", x, x.drifts(0), 7);
        x.put(0, -1, 5);
        x.strike(0, -1, 4);
        Check.well("NULL rows are none", x, x.drifts(0), 7);
        x.put(0, 40, 1);
        x.put(0, 6, 1001);
        x.strike(0, 6, 2);
        Check.well("refused ones are none", x, x.drifts(0), 7);
        x.tray(0, 0, 5);
        x.write(0, 1, -1);
        x.pack(0, 0);
        Check.well("4 of 5 packed", x, x.drifts(0), 11);
        for (int i = 0; i < 20; i++) {
            x.put(0, 9, 1000);
            x.strike(0, 9, 1000);
        }
        Check.well("more than there can be", x, x.drifts(0), 40_011);
    }

    /** "since the SKETCH was made, or TOGETHER". */
    private static void driftsSince() {
        SpanSketch x = Made.oneSpan(5, 5);
        x.put(0, 3, 4);
        x.make(0, 13, 1, 1);
        Check.well("a refused make", x, x.drifts(0), 4);
        x.together(0, 1);
        Check.well("a refused TOGETHER", x, x.drifts(0), 4);
        x.split(0, 5);
        x.melt(0, 0);
        x.keep(0);
        Check.well("SPLIT, MELT and KEEPING", x, x.drifts(0), 4);
        x.make(1, 1, 1, 1);
        x.put(1, 3, 2);
        x.together(0, 1);
        Check.well("TOGETHER", x, x.drifts(0), 0);
        Check.well("the other one", x, x.drifts(1), 2);
        x.put(0, 3, 1);
        Check.well("since TOGETHER", x, x.drifts(0), 1);
        x.make(0, 1, 1, 1);
        Check.well("made", x, x.drifts(0), 0);
        x.put(0, 3, 6);
        x.away(0);
        Check.refused("away", x, x.drifts(0), 5);
        x.put(0, 3, 1);
        x.make(0, 1, 1, 1);
        Check.well("made anew", x, x.drifts(0), 0);
    }
}
