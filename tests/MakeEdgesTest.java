/** The boundaries of MAKING ("Terms" 2, promises 14 to 18), on both of their sides. */
public final class MakeEdgesTest {
    private static final int MIN = Integer.MIN_VALUE;
    private static final int MAX = Integer.MAX_VALUE;

    public static void main(String[] args) {
        noneAtFirst();
        mostSpans();
        shares();
        heavyAboveNone();
        heavyNotLess();
        heavyGreatestShare();
        heavyWithoutNulls();
        mostHeavy();
        likeHeavy();
        spansWithoutRows();
        errorWithoutPlain();
        errorOfOneSpan();
        greatestErrorFirst();
        thenErrorsTogether();
        thenLesserEnds();
        moreSpansThanNeeded();
        madeTrue();
        whatOfSketch();
        partsOfSpan();
        heavyOnes();
        Check.end();
    }

    /** "A SKETCH of a COLUMN (none at first)", and none after away(). */
    private static void noneAtFirst() {
        SpanSketch x = new SpanSketch();
        for (int c = 0; c < 3; c++) {
            x.put(c, 3, 5);
            Check.refused("sketch", x, x.sketch(c, 0), 5);
            Check.refused("away", x, x.away(c), 5);
            Check.well("make", x, x.make(c, 1, 1, 1), 0);
            Check.well("sketch", x, x.sketch(c, 0), 1);
            Check.well("away", x, x.away(c));
            Check.refused("sketch", x, x.sketch(c, 0), 5);
            Check.refused("away", x, x.away(c), 5);
        }
    }

    /** "b SPANS (1 to 12)": so many there are then, from VALUE 0 to VALUE 39 one behind the other. */
    private static void mostSpans() {
        SpanSketch x = new SpanSketch();
        for (int v = 0; v < 40; v++) {
            x.put(0, v, 1 + v * 7 % 40);
        }
        for (int b = 1; b <= 12; b++) {
            x.make(0, b, 1, 12);
            Check.well("SPANS", x, x.sketch(0, 0), b);
            int first = 0;
            for (int k = 0; k < b; k++) {
                Check.well("first VALUE", x, x.span(0, k, 0), first);
                Check.due("one VALUE at least", x.span(0, k, 1) >= first, true);
                first = x.span(0, k, 1) + 1;
            }
            Check.due("all VALUES", first, 40);
        }
        for (int b : new int[] {0, -1, 13, MIN, MAX}) {
            Check.refused("make of " + b, x, x.make(0, b, 1, 1), 1);
            Check.well("as it was", x, x.sketch(0, 0), 12);
        }
    }

    /** "n from 0 to d, d 1 to 1,000". */
    private static void shares() {
        SpanSketch x = new SpanSketch();
        for (int d : new int[] {1, 2, 999, 1000}) {
            Check.well("n 0 of " + d, x, x.make(0, 1, 0, d), 0);
            Check.well("n of d, " + d, x, x.make(0, 1, d, d), 0);
            Check.refused("n above d", x, x.make(0, 1, d + 1, d), 1);
            Check.refused("n below 0", x, x.make(0, 1, -1, d), 1);
        }
        for (int d : new int[] {0, -1, 1001, MIN, MAX}) {
            Check.refused("n 0 of " + d, x, x.make(0, 1, 0, d), 1);
            Check.refused("n of d, " + d, x, x.make(0, 1, d, d), 1);
        }
        Check.refused("far", x, x.make(0, 1, MAX, 1000), 1);
        Check.refused("far", x, x.make(0, 1, MIN, 1000), 1);
    }

    /** "the TRUE count is above 0": one ROW is enough for the share 0, none is not. */
    private static void heavyAboveNone() {
        SpanSketch x = new SpanSketch();
        Check.well("make", x, x.make(0, 1, 0, 1), 0);
        Check.well("none without ROWS", x, x.sketch(0, 1), 0);
        x.put(0, 5, 1);
        x.put(0, 6, 1);
        x.put(0, 7, 100);
        x.strike(0, 6, 1);
        Check.well("make", x, x.make(0, 1, 0, 1), 0);
        Check.well("two of them", x, x.sketch(0, 1), 2);
        Check.well("one ROW", x, x.heavy(0, 5), 1);
        Check.refused("no ROW any more", x, x.heavy(0, 6), 6);
        Check.refused("never a ROW", x, x.heavy(0, 0), 6);
    }

    /** "times d, not less than all ROWS with VALUES, times n". */
    private static void heavyNotLess() {
        SpanSketch x = new SpanSketch();
        x.put(0, 5, 333);
        x.put(0, 0, 667);
        heavyBy(x, 333, 1000, 2);
        heavyBy(x, 334, 1000, 1);
        heavyBy(x, 1, 3, 1);
        heavyBy(x, 667, 1000, 1);
        heavyBy(x, 668, 1000, 0);
        x.put(0, 5, 1);
        x.strike(0, 0, 1);
        heavyBy(x, 334, 1000, 2);
        heavyBy(x, 1, 3, 2);
        heavyBy(x, 335, 1000, 1);
    }

    private static void heavyBy(SpanSketch x, int n, int d, int many) {
        x.make(0, 1, n, d);
        Check.well("HEAVY by " + n + "/" + d, x, x.sketch(0, 1), many);
    }

    /** The share 1 asks for all ROWS; 10,000 ROWS times 1,000 are no trouble. */
    private static void heavyGreatestShare() {
        SpanSketch x = new SpanSketch();
        Made.rows(x, 0, 5, 10_000);
        heavyBy(x, 1000, 1000, 1);
        x.strike(0, 5, 1);
        x.put(0, 6, 1);
        heavyBy(x, 1000, 1000, 0);
        heavyBy(x, 1, 1, 0);
        heavyBy(x, 999, 1000, 1);
        heavyBy(x, 0, 1000, 2);
    }

    /** "all ROWS with VALUES": NULL rows are none of them. */
    private static void heavyWithoutNulls() {
        SpanSketch x = new SpanSketch();
        x.put(0, 5, 4);
        x.put(0, 6, 4);
        Made.rows(x, 0, -1, 5000);
        heavyBy(x, 1, 2, 2);
        x.put(0, 6, 1);
        heavyBy(x, 1, 2, 1);
        Check.well("make of NULL rows", x, x.make(1, 2, 0, 1), 0);
        x.put(1, -1, 9);
        Check.well("make of NULL rows", x, x.make(1, 2, 0, 1), 0);
        Check.well("none", x, x.sketch(1, 1), 0);
        Check.well("no COUNTS", x, x.sketch(1, 3), 0);
    }

    /** "HEAVY VALUES, at most 8": "of more than 8 those with the greatest counts". */
    private static void mostHeavy() {
        SpanSketch x = new SpanSketch();
        for (int v = 0; v < 12; v++) {
            x.put(0, 39 - v, 10 + v);
            x.make(0, 1, 0, 1);
            Check.well("HEAVY of " + (v + 1), x, x.sketch(0, 1), Math.min(8, v + 1));
            Check.well("the greatest", x, x.heavy(0, 39 - v), 10 + v);
            if (v >= 7) {
                Check.well("the 8th", x, x.heavy(0, 39 - v + 7), 10 + v - 7);
            }
            if (v >= 8) {
                Check.refused("the 9th", x, x.heavy(0, 39 - v + 8), 6);
            }
        }
    }

    /** "of like ones the lesser VALUES". */
    private static void likeHeavy() {
        SpanSketch x = new SpanSketch();
        for (int v = 0; v < 10; v++) {
            x.put(0, v, v % 2 == 0 ? 2 : 3);
        }
        x.make(0, 1, 0, 1);
        for (int v : new int[] {1, 3, 5, 7, 9}) {
            Check.well("the greatest counts", x, x.heavy(0, v), 3);
        }
        for (int v : new int[] {0, 2, 4}) {
            Check.well("the lesser VALUES", x, x.heavy(0, v), 2);
        }
        for (int v : new int[] {6, 8}) {
            Check.refused("the greater VALUES", x, x.heavy(0, v), 6);
        }
        x.put(0, 8, 1);
        x.make(0, 1, 0, 1);
        Check.well("one ROW more", x, x.heavy(0, 8), 3);
        Check.refused("has no place now", x, x.heavy(0, 4), 6);
    }

    /** "each of one VALUE at least", also where all of them are alike. */
    private static void spansWithoutRows() {
        SpanSketch x = new SpanSketch();
        for (int b : new int[] {1, 2, 12}) {
            Check.well("make", x, x.make(0, b, 0, 1), 0);
            for (int k = 0; k < b - 1; k++) {
                Check.span(x, 0, k, k, k, 0, 0, 1);
            }
            Check.span(x, 0, b - 1, b - 1, 39, 0, 0, 41 - b);
        }
    }

    /** "(0 without any)": pieces of HEAVY VALUES alone. */
    private static void errorWithoutPlain() {
        SpanSketch x = new SpanSketch();
        for (int v = 0; v < 8; v++) {
            x.put(0, v, 10 + v);
        }
        x.put(0, 8, 3);
        Check.well("make", x, x.make(0, 3, 0, 1), 0);
        Check.due("HEAVY", x.sketch(0, 1), 8);
        Check.span(x, 0, 0, 0, 0, 0, 0, 0);
        Check.span(x, 0, 1, 1, 8, 3, 0, 1);
        Check.span(x, 0, 2, 9, 39, 0, 0, 31);
        Check.well("all together", x, x.make(0, 1, 0, 1), 3);
        Check.span(x, 0, 0, 0, 39, 3, 0, 32);
    }

    /** "the greatest TRUE count less the least", of those that are not HEAVY. */
    private static void errorOfOneSpan() {
        SpanSketch x = new SpanSketch();
        for (int v = 0; v < 40; v++) {
            x.put(0, v, 20 + v % 3);
        }
        Check.well("from 20 to 22", x, x.make(0, 1, 1, 1), 2);
        x.put(0, 17, 500);
        Check.well("from 20 to 522", x, x.make(0, 1, 1, 1), 502);
        Check.well("the greatest is HEAVY", x, x.make(0, 1, 1, 4), 2);
        x.strike(0, 18, 20);
        Check.well("from 0 to 22", x, x.make(0, 1, 1, 4), 22);
        SpanSketch y = new SpanSketch();
        Made.rows(y, 0, 0, 10_000);
        Check.well("HEAVY", y, y.make(0, 1, 1, 1), 0);
        y.strike(0, 0, 1);
        y.put(0, 1, 1);
        Check.well("the greatest ERROR there is", y, y.make(0, 1, 1, 1), 9999);
    }

    /** "of which the greatest ERROR is least": two of 5 are better than one of 6 and one of 0. */
    private static void greatestErrorFirst() {
        SpanSketch x = new SpanSketch();
        x.put(0, 0, 5);
        x.put(0, 2, 6);
        for (int v = 3; v < 40; v++) {
            x.put(0, v, 1);
        }
        Check.well("make", x, x.make(0, 2, 1, 1), 5);
        Check.span(x, 0, 0, 0, 1, 5, 0, 2);
        Check.span(x, 0, 1, 2, 39, 43, 0, 38);
    }

    /** "of several those with the least ERRORS together": 4 and 0 are better than 1 and 4. */
    private static void thenErrorsTogether() {
        SpanSketch x = new SpanSketch();
        x.put(0, 1, 3);
        x.put(0, 2, 4);
        x.put(0, 3, 20);
        for (int v = 4; v < 40; v++) {
            x.put(0, v, 24);
        }
        Check.well("make", x, x.make(0, 3, 1, 1), 4);
        Check.span(x, 0, 0, 0, 2, 7, 0, 3);
        Check.span(x, 0, 1, 3, 3, 20, 0, 1);
        Check.span(x, 0, 2, 4, 39, 36 * 24, 0, 36);
    }

    /** "of several the first: SPAN by SPAN the lesser end". */
    private static void thenLesserEnds() {
        SpanSketch x = new SpanSketch();
        for (int v = 0; v < 40; v++) {
            x.put(0, v, 1 + v / 8);
        }
        Check.well("make", x, x.make(0, 4, 1, 1), 1);
        Check.span(x, 0, 0, 0, 7, 8, 0, 8);
        Check.span(x, 0, 1, 8, 15, 16, 0, 8);
        Check.span(x, 0, 2, 16, 23, 24, 0, 8);
        Check.span(x, 0, 3, 24, 39, 72, 0, 16);
        Check.well("make", x, x.make(0, 3, 1, 1), 1);
        Check.span(x, 0, 0, 0, 7, 8, 0, 8);
        Check.span(x, 0, 1, 8, 23, 40, 0, 16);
        Check.span(x, 0, 2, 24, 39, 72, 0, 16);
    }

    /** More SPANS than levels: those at hand are the first ones, of one VALUE each. */
    private static void moreSpansThanNeeded() {
        SpanSketch x = new SpanSketch();
        x.put(0, 20, 9);
        x.put(0, 21, 1);
        Check.well("make", x, x.make(0, 6, 1, 1), 0);
        int[] ends = {0, 1, 19, 20, 21, 39};
        for (int k = 0; k < 6; k++) {
            Check.well("last VALUE", x, x.span(0, k, 1), ends[k]);
        }
        Check.well("make", x, x.make(0, 4, 1, 1), 0);
        Check.span(x, 0, 0, 0, 19, 0, 0, 20);
        Check.span(x, 0, 3, 22, 39, 0, 0, 18);
        Check.well("make", x, x.make(0, 3, 1, 1), 1);
        Check.span(x, 0, 0, 0, 19, 0, 0, 20);
        Check.span(x, 0, 1, 20, 20, 9, 0, 1);
        Check.span(x, 0, 2, 21, 39, 1, 0, 19);
    }

    /** "COUNTS are true then, DOUBTS 0": whatever the SKETCH was before. */
    private static void madeTrue() {
        SpanSketch x = Made.oneSpan(6, 4);
        x.split(0, 19);
        x.put(0, 30, 3);
        x.make(0, 1, 6, 13);
        Check.due("HEAVY", x.heavy(0, 0), 6);
        x.strike(0, 0, 2);
        Check.well("make", x, x.make(0, 2, 1, 1), 3);
        Check.well("HEAVY no more", x, x.sketch(0, 1), 0);
        Check.well("DOUBTS", x, x.sketch(0, 2), 0);
        Check.well("COUNTS", x, x.sketch(0, 3), 11);
        Check.span(x, 0, 0, 0, 1, 8, 0, 2);
        Check.span(x, 0, 1, 2, 39, 3, 0, 38);
    }

    /** sketch(): what 0 to 3. */
    private static void whatOfSketch() {
        SpanSketch x = new SpanSketch();
        x.put(0, 3, 50);
        x.put(0, 4, 6);
        x.make(0, 2, 1, 2);
        x.melt(0, 0);
        x.split(0, 20);
        Check.well("SPANS", x, x.sketch(0, 0), 2);
        Check.well("HEAVY", x, x.sketch(0, 1), 1);
        Check.well("DOUBTS", x, x.sketch(0, 2), 6);
        Check.well("COUNTS", x, x.sketch(0, 3), 6);
        for (int what : new int[] {-1, 4, MIN, MAX}) {
            Check.refused("what " + what, x, x.sketch(0, what), 1);
        }
    }

    /** span(): k from 0 to the last SPAN, what 0 to 4. */
    private static void partsOfSpan() {
        SpanSketch x = new SpanSketch();
        for (int b : new int[] {1, 5, 12}) {
            x.make(0, b, 1, 1);
            Check.well("the first", x, x.span(0, 0, 0), 0);
            Check.well("the last", x, x.span(0, b - 1, 1), 39);
            for (int k : new int[] {-1, b, MIN, MAX}) {
                Check.refused("SPAN " + k, x, x.span(0, k, 0), 1);
            }
            Check.well("what 4", x, x.span(0, b - 1, 4), 41 - b);
            for (int what : new int[] {-1, 5, MIN, MAX}) {
                Check.refused("what " + what, x, x.span(0, b - 1, what), 1);
            }
        }
        x.make(0, 5, 1, 1);
        Check.refused("of the 12 before", x, x.span(0, 5, 1), 1);
    }

    /** heavy(): VALUES 0 to 39; "6: it is not". */
    private static void heavyOnes() {
        SpanSketch x = new SpanSketch();
        x.put(0, 0, 30);
        x.put(0, 39, 30);
        x.put(0, 38, 29);
        x.make(0, 1, 30, 89);
        Check.well("VALUE 0", x, x.heavy(0, 0), 30);
        Check.well("VALUE 39", x, x.heavy(0, 39), 30);
        for (int v : new int[] {1, 38}) {
            Check.refused("not HEAVY", x, x.heavy(0, v), 6);
        }
        for (int v : new int[] {-1, 40, MIN, MAX}) {
            Check.refused("VALUE " + v, x, x.heavy(0, v), 1);
        }
        x.put(0, 38, 60);
        Check.refused("not since it was made", x, x.heavy(0, 38), 6);
        x.strike(0, 0, 30);
        Check.well("HEAVY without ROWS", x, x.heavy(0, 0), 0);
    }
}
