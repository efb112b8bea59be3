/** The boundaries of TOGETHER ("Terms" 2 and 3, promise 22), on both of their sides. */
public final class TogetherEdgesTest {
    /** 100,000 in all: COUNT, DOUBT and HEAVY counts of one COLUMN and of another one. */
    private static final int[] WEIGHTS = {1000, 60_000, 2000, 5000, 30_000, 2000};

    public static void main(String[] args) {
        likeOnes();
        eitherSketch();
        splitWhereTheOtherEnds();
        splitFromTheLeft();
        longByItsOwnHeavy();
        heavyOfTheColumnAlone();
        heavyOfNoneOfThem();
        heavyAtTheEndOfAPiece();
        upTo12Spans();
        leastPairFirst();
        from23To12();
        doubtLimit();
        weightLimit();
        weightBelowNone();
        nothingElse();
        Check.end();
    }

    /** "1: like ones, too". */
    private static void likeOnes() {
        SpanSketch x = new SpanSketch();
        for (int c = 0; c < 3; c++) {
            Check.refused("without SKETCH", x, x.together(c, c), 1);
            x.make(c, 1, 1, 1);
        }
        for (int c = 0; c < 3; c++) {
            for (int o = 0; o < 3; o++) {
                if (c == o) {
                    Check.refused("like ones", x, x.together(c, o), 1);
                } else {
                    Check.well("unlike ones", x, x.together(c, o), 1);
                }
            }
        }
    }

    /** "5: either". */
    private static void eitherSketch() {
        SpanSketch x = new SpanSketch();
        Check.refused("neither", x, x.together(0, 1), 5);
        x.make(0, 1, 1, 1);
        Check.refused("the COLUMN alone", x, x.together(0, 1), 5);
        Check.refused("the other one alone", x, x.together(1, 0), 5);
        x.make(1, 1, 1, 1);
        Check.well("both", x, x.together(0, 1), 1);
        x.away(0);
        Check.refused("not any more", x, x.together(0, 1), 5);
        Check.refused("not any more", x, x.together(1, 0), 5);
    }

    /** "in both the SPANS are SPLIT where the other one's end". */
    private static void splitWhereTheOtherEnds() {
        SpanSketch x = new SpanSketch();
        Made.emptySpans(x, 0, 9, 29);
        Made.emptySpans(x, 1, 19, 29);
        x.put(0, 15, 20);
        x.put(0, 39, 3);
        x.put(1, 0, 7);
        x.put(1, 25, 5);
        Check.well("together", x, x.together(0, 1), 4);
        Check.span(x, 0, 0, 0, 9, 3, 4, 10);
        Check.span(x, 0, 1, 10, 19, 10 + 4, 10 + 4, 10);
        Check.span(x, 0, 2, 20, 29, 10 + 5, 10, 10);
        Check.span(x, 0, 3, 30, 39, 3, 0, 10);
        Check.well("the other one stays", x, x.sketch(1, 0), 3);
        Check.span(x, 1, 0, 0, 19, 7, 0, 20);
        Check.span(x, 1, 1, 20, 29, 5, 0, 10);
        Check.span(x, 1, 2, 30, 39, 0, 0, 10);
        Check.well("like ends", x, x.together(0, 1), 4);
        Check.span(x, 0, 0, 0, 9, 6, 8, 10);
    }

    /** "piece by piece from the left": each is SPLIT off from the rest of those before it. */
    private static void splitFromTheLeft() {
        SpanSketch x = new SpanSketch();
        Made.emptySpans(x, 0);
        x.put(0, 39, 8);
        Made.emptySpans(x, 1, 5, 19, 24);
        Check.well("together", x, x.together(0, 1), 4);
        Check.span(x, 0, 0, 0, 5, 1, 7, 6);
        Check.span(x, 0, 1, 6, 19, 2, 12, 14);
        Check.span(x, 0, 2, 20, 24, 1, 13, 5);
        Check.span(x, 0, 3, 25, 39, 4, 10, 15);
    }

    /** "(each with LONG by its own HEAVY VALUES)". */
    private static void longByItsOwnHeavy() {
        SpanSketch x = new SpanSketch();
        x.put(0, 0, 9);
        x.put(0, 1, 9);
        x.make(0, 1, 1, 2);
        x.put(0, 20, 38);
        Made.emptySpans(x, 1, 1, 2);
        x.put(1, 30, 37);
        x.melt(1, 0);
        x.melt(1, 0);
        x.split(1, 3);
        Check.span(x, 1, 0, 0, 3, 3, 34, 4);
        Check.well("together", x, x.together(0, 1), 2);
        Check.span(x, 0, 0, 0, 3, 2 + 3, 36 + 34, 2);
        Check.span(x, 0, 1, 4, 39, 36 + 34, 36 + 34, 36);
        SpanSketch y = new SpanSketch();
        y.put(0, 0, 9);
        y.make(0, 1, 1, 1);
        y.put(0, 20, 39);
        Made.emptySpans(y, 1, 0);
        y.put(1, 0, 5);
        Check.well("LONG 0 in the COLUMN alone", y, y.together(0, 1), 2);
        Check.span(y, 0, 0, 0, 0, 5, 0, 0);
        Check.span(y, 0, 1, 1, 39, 39, 0, 39);
    }

    /** "HEAVY are those of the COLUMN alone: with their counts together, if they are so in both". */
    private static void heavyOfTheColumnAlone() {
        SpanSketch x = heavyOnes();
        Check.well("together", x, x.together(0, 1), 1);
        Check.well("HEAVY", x, x.sketch(0, 1), 2);
        Check.well("in both", x, x.heavy(0, 0), 5 + 7);
        Check.well("in the COLUMN alone", x, x.heavy(0, 39), 6);
        Check.refused("in the other one alone", x, x.heavy(0, 20), 6);
        Check.span(x, 0, 0, 0, 39, 2 + 8, 0, 38);
        SpanSketch y = heavyOnes();
        Check.well("the other way round", y, y.together(1, 0), 1);
        Check.well("in both", y, y.heavy(1, 0), 5 + 7);
        Check.well("in the COLUMN alone", y, y.heavy(1, 20), 8);
        Check.refused("in the other one alone", y, y.heavy(1, 39), 6);
        Check.span(y, 1, 0, 0, 39, 2 + 6, 0, 38);
    }

    /** COLUMN 0: 0 and 39 are HEAVY, 1 has 2 ROWS; COLUMN 1: 0 and 20 are HEAVY. */
    private static SpanSketch heavyOnes() {
        SpanSketch x = new SpanSketch();
        x.put(0, 0, 5);
        x.put(0, 39, 6);
        x.put(0, 1, 2);
        x.make(0, 1, 1, 3);
        x.put(1, 0, 7);
        x.put(1, 20, 8);
        x.make(1, 1, 1, 3);
        Check.due("HEAVY", x.sketch(0, 1), 2);
        Check.due("HEAVY", x.sketch(1, 1), 2);
        return x;
    }

    /** Up to 8 of the other one come to COUNTS; the COLUMN never has more than its own. */
    private static void heavyOfNoneOfThem() {
        SpanSketch x = new SpanSketch();
        for (int v = 0; v < 8; v++) {
            x.put(0, v, 3);
            x.put(1, 10 + v, 4);
        }
        x.make(0, 1, 0, 1);
        x.make(1, 1, 0, 1);
        x.make(2, 1, 0, 1);
        Check.well("together", x, x.together(2, 0), 1);
        Check.well("no HEAVY VALUES", x, x.sketch(2, 1), 0);
        Check.well("COUNTS", x, x.sketch(2, 3), 24);
        Check.well("together", x, x.together(0, 1), 1);
        Check.well("8 still", x, x.sketch(0, 1), 8);
        Check.span(x, 0, 0, 0, 39, 32, 0, 32);
    }

    /** "comes to the COUNT of the piece in which it is": at both ends of pieces. */
    private static void heavyAtTheEndOfAPiece() {
        SpanSketch x = new SpanSketch();
        int[] values = {0, 9, 10, 19, 20, 39};
        for (int i = 0; i < values.length; i++) {
            x.put(1, values[i], 1 << i);
        }
        x.make(1, 1, 0, 1);
        x.split(1, 19);
        Made.emptySpans(x, 0, 9);
        Check.well("together", x, x.together(0, 1), 3);
        Check.span(x, 0, 0, 0, 9, 1 + 2, 0, 10);
        Check.span(x, 0, 1, 10, 19, 4 + 8, 0, 10);
        Check.span(x, 0, 2, 20, 39, 16 + 32, 0, 20);
    }

    /** "as long as there are more than 12 SPANS": 11, 12, 13 and 14 pieces. */
    private static void upTo12Spans() {
        for (int pieces = 11; pieces <= 14; pieces++) {
            SpanSketch x = new SpanSketch();
            Made.emptySpans(x, 0, 0, 1, 2, 3, 4);
            int[] ends = new int[pieces - 6];
            for (int i = 0; i < ends.length; i++) {
                ends[i] = 20 + i;
            }
            Made.emptySpans(x, 1, ends);
            Check.well("of " + pieces, x, x.together(0, 1), Math.min(12, pieces));
            Check.well("SPANS", x, x.sketch(0, 0), Math.min(12, pieces));
            Check.well("end of the first", x, x.span(0, 0, 1), Math.max(0, pieces - 12));
        }
    }

    /** "the two neighbours with the least COUNTS together, the first such". */
    private static void leastPairFirst() {
        for (int less = 0; less < 2; less++) {
            SpanSketch x = new SpanSketch();
            Made.emptySpans(x, 0, 0, 1, 2, 3, 4, 5);
            Made.emptySpans(x, 1, 6, 7, 8, 9, 10, 11);
            for (int v = 0; v < 6; v++) {
                x.put(0, v, v == 5 ? 50 : 5);
                x.put(1, 12 - v, v == 5 ? 50 : 5);
            }
            x.strike(0, 2, 1);
            x.strike(1, 9, 1 + less);
            Check.well("together", x, x.together(0, 1), 12);
            int at = less == 0 ? 1 : 8;
            Check.well("before it", x, x.span(0, at - 1, 1), at - 1);
            Check.well("its end", x, x.span(0, at, 1), at + 1);
            Check.well("its COUNT", x, x.span(0, at, 2), 9 - less);
        }
    }

    /** 11 ends in each, all of them unlike: 11 times two are MELTED. */
    private static void from23To12() {
        SpanSketch x = new SpanSketch();
        int[] even = new int[11];
        int[] odd = new int[11];
        for (int i = 0; i < 11; i++) {
            even[i] = 2 * i;
            odd[i] = 2 * i + 1;
        }
        Made.emptySpans(x, 0, even);
        Made.emptySpans(x, 1, odd);
        x.put(0, 39, 3);
        Check.well("together", x, x.together(0, 1), 12);
        Check.well("COUNTS", x, x.sketch(0, 3), 3);
        Check.span(x, 0, 0, 0, 11, 0, 0, 12);
        for (int k = 1; k < 10; k++) {
            Check.span(x, 0, k, 11 + k, 11 + k, 0, 0, 1);
        }
        Check.span(x, 0, 10, 21, 21, 0, 3, 1);
        Check.span(x, 0, 11, 22, 39, 3, 3, 18);
        Check.well("the other one stays", x, x.sketch(1, 0), 12);
    }

    /** "Where any DOUBT (of a .. TOGETHER) would be above 1,000,000": 11 pieces of a DOUBT are MELTED. */
    private static void doubtLimit() {
        int[] doubts = {90_000, 90_909, 90_910, 99_990};
        int[] melted = {990_000, 999_999, 1_000_000, 1_000_000};
        for (int i = 0; i < doubts.length; i++) {
            SpanSketch x = new SpanSketch();
            x.make(0, 11, 1, 1);
            Made.doubt(x, 0, 24, doubts[i]);
            for (int v = 0; v < 10; v++) {
                x.put(0, v, 1);
            }
            int[] ends = {28, 29, 30, 31, 32, 33, 34, 35, 36, 37, 38};
            Made.emptySpans(x, 1, ends);
            Check.well("together", x, x.together(0, 1), 12);
            Check.span(x, 0, 9, 9, 9, 1, 0, 1);
            Check.span(x, 0, 10, 10, 38, 0, melted[i], 29);
            Check.span(x, 0, 11, 39, 39, 0, doubts[i], 1);
        }
    }

    /** 4, "all COUNTS, DOUBTS and HEAVY counts of both SKETCHES together above 100,000". */
    private static void weightLimit() {
        for (int more = 0; more < 7; more++) {
            SpanSketch x = new SpanSketch();
            int[] weights = WEIGHTS.clone();
            if (more < 6) {
                weights[more]++;
            }
            weigh(x, 0, weights[0], weights[1], weights[2]);
            weigh(x, 1, weights[3], weights[4], weights[5]);
            if (more < 6) {
                Check.refused("100,001", x, x.together(0, 1), 4);
                Check.refused("100,001", x, x.together(1, 0), 4);
                Check.well("as it was", x, x.heavy(0, 5), weights[2] - 1);
            } else {
                Check.well("100,000", x, x.together(0, 1), 1);
                Check.well("HEAVY", x, x.heavy(0, 5), 4000 - 2);
                Check.span(x, 0, 0, 0, 39, 6000, 90_000, 38);
                Check.refused("137,000", x, x.together(1, 0), 4);
            }
        }
    }

    /** One SPAN of LONG 38; the VALUES 5 and 6 are HEAVY, 6 with 1 ROW. */
    private static void weigh(SpanSketch x, int column, int count, int doubt, int heavy) {
        x.put(column, 5, 1);
        x.put(column, 6, 1);
        x.make(column, 1, 1, 2);
        Made.rows(x, column, 5, heavy - 2);
        Made.doubt(x, column, 20, doubt);
        Made.rows(x, column, 20, count);
        Check.span(x, column, 0, 0, 39, count, doubt, 38);
    }

    /** COUNTS below 0 count as they are. */
    private static void weightBelowNone() {
        SpanSketch x = new SpanSketch();
        Made.emptySpans(x, 0);
        Made.doubt(x, 0, 19, 49_990);
        x.put(0, 0, 10);
        x.split(0, 1);
        x.strike(0, 0, 10);
        Check.span(x, 0, 0, 0, 1, -10, 50_000, 2);
        Check.span(x, 0, 1, 2, 39, 10, 49_990, 38);
        x.make(1, 1, 1, 1);
        x.put(1, 0, 11);
        Check.refused("100,001", x, x.together(0, 1), 4);
        x.strike(1, 0, 1);
        Check.well("100,000", x, x.together(0, 1), 2);
    }

    /** "No ROWS change"; nor does the other one, or the third. */
    private static void nothingElse() {
        SpanSketch x = heavyOnes();
        x.put(1, -1, 3);
        x.put(2, 7, 3);
        x.make(2, 2, 1, 2);
        x.sample(0, 2, 1);
        x.together(0, 1);
        Check.well("ROWS", x, x.rows(0, 1), 13);
        Check.well("truly", x, x.truly(0, 0), 5);
        Check.well("truly", x, x.truly(1, 0), 7);
        Check.well("truly NULL", x, x.truly(0, -1), 0);
        Check.refused("none are drawn", x, x.drawn(0, 0), 6);
        Check.well("HEAVY of the other one", x, x.heavy(1, 0), 7);
        Check.well("the third one", x, x.sketch(2, 0), 2);
        Check.fraction("no FRACTION", x, 0, 1);
    }
}
