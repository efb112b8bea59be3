/** The boundaries of ROWS ("Terms" 1, promises 9 to 13), on both of their sides. */
public final class RowEdgesTest {
    private static final int MIN = Integer.MIN_VALUE;
    private static final int MAX = Integer.MAX_VALUE;

    public static void main(String[] args) {
        manyAtOnce();
        valuesOfRows();
        mostRows();
        mostRowsAtOnce();
        mostRowsPacked();
        roomAfterStrike();
        fewerThanStruck();
        packNumbers();
        packOfSizes();
        packInOrder();
        whatOfRows();
        valuesThatHaveRows();
        trueCountsBeside();
        Check.end();
    }

    /** "So many ROWS (1 to 1,000)", put and struck. */
    private static void manyAtOnce() {
        SpanSketch x = new SpanSketch();
        for (int v : new int[] {-1, 7}) {
            for (int many : new int[] {1, 999, 1000}) {
                Check.well("put " + many, x, x.put(0, v, many));
            }
            for (int many : new int[] {0, -1, 1001, MIN, MAX}) {
                Check.refused("put " + many, x, x.put(0, v, many), 1);
                Check.refused("strike " + many, x, x.strike(0, v, many), 1);
            }
            Check.well("2,000", x, x.truly(0, v), 2000);
            Check.well("strike 1", x, x.strike(0, v, 1));
            Check.well("strike 1,000", x, x.strike(0, v, 1000));
            Check.well("strike 999", x, x.strike(0, v, 999));
            Check.well("none is left", x, x.truly(0, v), 0);
        }
    }

    /** "of a VALUE (0 to 39), or without one (NULL rows)". */
    private static void valuesOfRows() {
        SpanSketch x = new SpanSketch();
        for (int v : new int[] {-1, 0, 39}) {
            Check.well("put " + v, x, x.put(0, v, 2));
            Check.well("truly " + v, x, x.truly(0, v), 2);
            Check.well("strike " + v, x, x.strike(0, v, 1));
            Check.well("truly " + v, x, x.truly(0, v), 1);
        }
        Check.due("ROWS with VALUES", x.rows(0, 0), 2);
        for (int v : new int[] {-2, 40, MIN, MAX}) {
            Check.refused("put " + v, x, x.put(0, v, 1), 1);
            Check.refused("truly " + v, x, x.truly(0, v), 1);
            Check.refused("strike " + v, x, x.strike(0, v, 1), 1);
        }
        Check.due("all ROWS", x.rows(0, 1), 3);
    }

    /** "at most 10,000 each": NULL rows are ROWS too, and each COLUMN has its own. */
    private static void mostRows() {
        for (int v : new int[] {-1, 0, 39}) {
            SpanSketch x = new SpanSketch();
            Made.rows(x, 1, 3, 5000);
            Made.rows(x, 1, -1, 4999);
            Check.well("9,999", x, x.rows(1, 1), 9999);
            Check.refused("two more", x, x.put(1, v, 2), 4);
            Check.well("the 10,000th", x, x.put(1, v, 1));
            Check.refused("the 10,001st", x, x.put(1, v, 1), 4);
            Check.well("10,000", x, x.rows(1, 1), 10_000);
            Check.well("in another COLUMN", x, x.put(0, v, 1000));
            Check.well("and in the third", x, x.put(2, v, 1000));
        }
    }

    /** One too many of a thousand: nothing of them is put. */
    private static void mostRowsAtOnce() {
        SpanSketch x = new SpanSketch();
        Made.rows(x, 0, 3, 9001);
        Check.refused("1,000 are one too many", x, x.put(0, 3, 1000), 4);
        Check.well("none of them is there", x, x.truly(0, 3), 9001);
        Check.well("999", x, x.put(0, 3, 999));
        SpanSketch y = new SpanSketch();
        Made.rows(y, 0, 3, 9000);
        Check.well("1,000", y, y.put(0, 3, 1000));
        Check.refused("one more", y, y.put(0, -1, 1), 4);
    }

    private static void mostRowsPacked() {
        SpanSketch x = new SpanSketch();
        Made.rows(x, 2, 3, 9900);
        x.tray(0, 0, 100);
        x.tray(1, 0, 1);
        x.tray(2, 0, 0);
        x.put(2, -1, 1);
        Check.refused("100 are one too many", x, x.pack(2, 0), 4);
        Check.well("none of them is there", x, x.truly(2, 0), 0);
        x.strike(2, -1, 1);
        Check.well("100", x, x.pack(2, 0), 100);
        Check.refused("one more", x, x.pack(2, 1), 4);
        Check.well("none more", x, x.pack(2, 2), 0);
        Check.well("10,000", x, x.rows(2, 1), 10_000);
    }

    private static void roomAfterStrike() {
        SpanSketch x = new SpanSketch();
        Made.rows(x, 0, 3, 10_000);
        Check.refused("full", x, x.put(0, 4, 1), 4);
        Check.well("strike", x, x.strike(0, 3, 2));
        Check.refused("room for 2", x, x.put(0, 4, 3), 4);
        Check.well("2", x, x.put(0, 4, 2));
        Check.refused("full again", x, x.put(0, -1, 1), 4);
    }

    /** 4, "fewer ROWS than are to be struck": those of the VALUE count, no others. */
    private static void fewerThanStruck() {
        SpanSketch x = new SpanSketch();
        x.put(0, 5, 10);
        x.put(0, 6, 4);
        x.put(0, -1, 3);
        for (int v : new int[] {6, -1}) {
            int there = x.truly(0, v);
            Check.refused("one more than there are", x, x.strike(0, v, there + 1), 4);
            Check.well("all of them stay", x, x.truly(0, v), there);
            Check.well("as many as there are", x, x.strike(0, v, there));
            Check.refused("one of none", x, x.strike(0, v, 1), 4);
        }
        Check.refused("none ever", x, x.strike(0, 7, 1), 4);
        Check.refused("in another COLUMN", x, x.strike(1, 5, 1), 4);
        Check.well("the others stay", x, x.rows(0, 1), 10);
    }

    /** pack: "1: also one that is no VALUE, nor NONE", wherever it is. */
    private static void packNumbers() {
        SpanSketch x = new SpanSketch();
        x.tray(0, 3, 3);
        int packed = 0;
        for (int place = 0; place < 3; place++) {
            for (long good : new long[] {-1, 0, 39}) {
                x.write(0, place, good);
                Check.well("pack of " + good, x, x.pack(0, 0), 3);
                packed += 3;
            }
            long[] wrong = {-2, 40, MIN, MAX, 1L << 32, -(1L << 32), (1L << 32) - 1, (1L << 32) + 39,
                Long.MIN_VALUE, Long.MAX_VALUE};
            for (long bad : wrong) {
                x.write(0, place, bad);
                Check.refused("pack of " + bad, x, x.pack(0, 0), 1);
                Check.due("nothing is put", x.rows(0, 1), packed);
            }
            x.write(0, place, 0);
        }
    }

    private static void packOfSizes() {
        SpanSketch x = new SpanSketch();
        for (int many : new int[] {0, 1, 100}) {
            x.tray(0, 1, many);
            Check.well("pack of " + many, x, x.pack(1, 0), many);
        }
        Check.well("all of them", x, x.truly(1, 0), 101);
        Check.well("the TRAY stays", x, x.pack(1, 0), 100);
    }

    /** "one by one, from place 0 on": a SAMPLE has them in that order. */
    private static void packInOrder() {
        SpanSketch x = new SpanSketch();
        x.tray(0, 0, 16);
        for (int i = 0; i < 16; i++) {
            x.write(0, i, i == 9 ? -1 : 20 - i);
        }
        x.sample(0, 16, 1);
        Check.well("pack", x, x.pack(0, 0), 16);
        for (int i = 0; i < 16; i++) {
            Check.well("in place " + i, x, x.drawn(0, i), i == 9 ? -2 : 20 - i);
        }
        Check.well("NONE as NULL row", x, x.truly(0, -1), 1);
    }

    private static void whatOfRows() {
        SpanSketch x = new SpanSketch();
        x.put(0, 8, 2);
        x.put(0, -1, 1);
        Check.well("what 0", x, x.rows(0, 0), 2);
        Check.well("what 1", x, x.rows(0, 1), 3);
        Check.well("what 2", x, x.rows(0, 2), 1);
        for (int what : new int[] {-1, 3, MIN, MAX}) {
            Check.refused("what " + what, x, x.rows(0, what), 1);
        }
    }

    /** "VALUES that have ROWS": from the first ROW to the last one; NULL is none. */
    private static void valuesThatHaveRows() {
        SpanSketch x = new SpanSketch();
        Check.well("none", x, x.rows(0, 2), 0);
        x.put(0, -1, 5);
        Check.well("NULL rows have none", x, x.rows(0, 2), 0);
        for (int v = 0; v < 40; v++) {
            x.put(0, v, 1);
            Check.well("one more", x, x.rows(0, 2), v + 1);
        }
        x.put(0, 39, 1);
        Check.well("a second ROW", x, x.rows(0, 2), 40);
        x.strike(0, 39, 1);
        Check.well("one ROW is left", x, x.rows(0, 2), 40);
        x.strike(0, 39, 1);
        Check.well("none is left", x, x.rows(0, 2), 39);
    }

    /** "TRUE counts are kept beside": no SKETCH changes them; "SKETCHES go by what they have alone". */
    private static void trueCountsBeside() {
        SpanSketch x = Made.oneSpan(6, 4);
        x.put(1, 2, 5);
        x.make(1, 1, 1, 2);
        x.split(0, 0);
        x.together(0, 1);
        x.keep(0);
        x.melt(0, 0);
        Check.well("truly 0", x, x.truly(0, 0), 6);
        Check.well("truly 1", x, x.truly(0, 1), 4);
        Check.well("truly 2", x, x.truly(0, 2), 0);
        Check.well("ROWS", x, x.rows(0, 1), 10);
        Check.well("COUNTS", x, x.sketch(0, 3), 15);
        Check.well("VALUE 39 without ROWS", x, x.guess(0, 39, 39), 1);
        Check.fraction("15 by 40", x, 3, 8);
        x.away(0);
        Check.well("truly 0", x, x.truly(0, 0), 6);
    }
}
