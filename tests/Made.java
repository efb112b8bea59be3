/** Objects in states that several tests need, made by calls that must go well. */
final class Made {
    private Made() {
    }

    /** So many ROWS, in calls of 1,000 at most. */
    static void rows(SpanSketch x, int column, int value, int many) {
        for (int left = many; left > 0; left -= 1000) {
            Check.well("put", x, x.put(column, value, Math.min(left, 1000)));
        }
    }

    /** So many ROWS away, in calls of 1,000 at most. */
    static void struck(SpanSketch x, int column, int value, int many) {
        for (int left = many; left > 0; left -= 1000) {
            Check.well("strike", x, x.strike(column, value, Math.min(left, 1000)));
        }
    }

    /** Column 0 with a SKETCH of one SPAN: so many ROWS of the VALUES 0 and 1, none HEAVY. */
    static SpanSketch oneSpan(int zeros, int ones) {
        SpanSketch x = new SpanSketch();
        rows(x, 0, 0, zeros);
        rows(x, 0, 1, ones);
        x.make(0, 1, 1, 1);
        Check.due("HEAVY at first", x.sketch(0, 1), 0);
        return x;
    }

    /** A SKETCH without ROWS that has these last VALUES of its SPANS, and 39. */
    static void emptySpans(SpanSketch x, int column, int... ends) {
        Check.well("make", x, x.make(column, 1, 1, 1), 0);
        for (int i = 0; i < ends.length; i++) {
            Check.well("split", x, x.split(column, ends[i]), i);
        }
    }

    /**
     * Gives a SPAN without ROWS a DOUBT and the COUNT 0: 0, or 2 and more; its LONG is even, and
     * the middle halves it. A SPLIT there with its MELT makes twice the DOUBT and the COUNT of it,
     * if the COUNT is 0 or 1; of no DOUBT and an even COUNT it makes that COUNT.
     */
    static void doubt(SpanSketch x, int column, int middle, int doubt) {
        if (doubt == 0) {
            return;
        }
        if (doubt % 2 == 0 && doubt <= 10_000) {
            rows(x, column, middle, doubt);
            twice(x, column, middle);
            struck(x, column, middle, doubt);
            return;
        }
        doubt(x, column, middle, doubt / 2);
        rows(x, column, middle, doubt % 2);
        twice(x, column, middle);
        struck(x, column, middle, doubt % 2);
    }

    private static void twice(SpanSketch x, int column, int middle) {
        int k = x.split(column, middle);
        Check.due("split", x.status(), 0);
        Check.well("melt", x, x.melt(column, k));
    }
}
