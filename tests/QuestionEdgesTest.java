import java.math.BigInteger;

/** The boundaries of QUESTIONS and FRACTIONS ("Terms" 3, promises 3, 4 and 24 to 27), on both sides. */
public final class QuestionEdgesTest {
    private static final int MIN = Integer.MIN_VALUE;
    private static final int MAX = Integer.MAX_VALUE;

    public static void main(String[] args) {
        valuesAsked();
        askedOrder();
        sketchAsked();
        wholeOrInPart();
        wholeWithoutHeavy();
        heavyAsTheyAre();
        longNone();
        guessSigns();
        guessOfNoneFromMinusOne();
        lowOfWholeAlone();
        lowNoneAtLeast();
        lowOfEachSpan();
        highNoneAtLeast();
        boundsBracketTruth();
        joinOfHeavyAndSpans();
        joinSigns();
        joinOfLikeColumns();
        harmByOne();
        harmOfNone();
        harmBetweenColumns();
        withoutCommonDivisor();
        toldLatest();
        greatFractions();
        greatestTop();
        Check.end();
    }

    /** "VALUES from a to b": 0 to 39 for each of them, in every QUESTION. */
    private static void valuesAsked() {
        SpanSketch x = Made.oneSpan(6, 4);
        for (int v : new int[] {0, 39}) {
            Check.well("guess", x, x.guess(0, v, v), 1);
            Check.well("LOW", x, x.bound(0, v, v, false), 0);
            Check.well("HIGH", x, x.bound(0, v, v, true), 10);
            Check.well("harm", x, x.harm(0, v, v, 0, v, v), 1);
        }
        for (int v : new int[] {-1, 40, MIN, MAX}) {
            for (int w : new int[] {0, 39, v}) {
                refusedQuestion(x, v, w);
                refusedQuestion(x, w, v);
            }
        }
    }

    /** "1: a above b, too": a at b is a QUESTION still. */
    private static void askedOrder() {
        SpanSketch x = Made.oneSpan(6, 4);
        for (int a : new int[] {0, 1, 20, 38, 39}) {
            Check.well("a at b", x, x.guess(0, a, a), 1);
            Check.well("a at b", x, x.bound(0, a, a, true), 10);
            Check.well("a at b", x, x.harm(0, a, a, 0, a, a), 1);
            if (a > 0) {
                refusedQuestion(x, a, a - 1);
                refusedQuestion(x, a, 0);
            }
        }
        refusedQuestion(x, 39, 0);
    }

    private static void refusedQuestion(SpanSketch x, int a, int b) {
        String question = " from " + a + " to " + b;
        Check.refused("guess" + question, x, x.guess(0, a, b), 1);
        Check.refused("LOW" + question, x, x.bound(0, a, b, false), 1);
        Check.refused("HIGH" + question, x, x.bound(0, a, b, true), 1);
        Check.refused("harm" + question, x, x.harm(0, a, b, 0, 0, 39), 1);
        Check.refused("harm against one" + question, x, x.harm(0, 0, 39, 0, a, b), 1);
    }

    /** 5, and "5: either". */
    private static void sketchAsked() {
        SpanSketch x = new SpanSketch();
        x.put(0, 3, 5);
        x.put(1, 3, 5);
        Check.refused("neither", x, x.join(0, 1), 5);
        x.make(0, 1, 1, 1);
        Check.refused("guess", x, x.guess(1, 0, 39), 5);
        Check.refused("LOW", x, x.bound(1, 0, 39, false), 5);
        Check.refused("HIGH", x, x.bound(1, 0, 39, true), 5);
        Check.refused("join of the first alone", x, x.join(0, 1), 5);
        Check.refused("join of the other one alone", x, x.join(1, 0), 5);
        Check.refused("join", x, x.join(1, 1), 5);
        Check.refused("harm of the first alone", x, x.harm(0, 0, 39, 1, 0, 39), 5);
        Check.refused("harm of the other one alone", x, x.harm(1, 0, 39, 0, 0, 39), 5);
        Check.refused("harm", x, x.harm(1, 0, 39, 1, 0, 39), 5);
        x.make(1, 1, 1, 1);
        Check.well("join", x, x.join(0, 1), 1);
        Check.well("harm", x, x.harm(0, 0, 39, 1, 0, 39), 1);
    }

    /** A SPAN "all of whose VALUES .. are asked for, whole; one of which some are, in part". */
    private static void wholeOrInPart() {
        SpanSketch x = new SpanSketch();
        Made.emptySpans(x, 0, 9, 19);
        x.put(0, 12, 7);
        guessed(x, 10, 19, 7, 1);
        guessed(x, 9, 20, 7, 1);
        guessed(x, 0, 39, 7, 1);
        guessed(x, 11, 19, 63, 10);
        guessed(x, 10, 18, 63, 10);
        guessed(x, 10, 10, 7, 10);
        guessed(x, 0, 10, 7, 10);
        guessed(x, 19, 39, 7, 10);
        guessed(x, 0, 9, 0, 1);
        guessed(x, 20, 39, 0, 1);
        bounded(x, 10, 19, 7, 7);
        bounded(x, 11, 19, 0, 7);
        bounded(x, 10, 18, 0, 7);
        bounded(x, 0, 10, 0, 7);
        bounded(x, 0, 9, 0, 0);
        bounded(x, 20, 39, 0, 0);
    }

    private static void guessed(SpanSketch x, int a, int b, long top, long bottom) {
        String what = "guess from " + a + " to " + b;
        Check.well(what, x, x.guess(0, a, b), Long.signum(top));
        Check.fraction(what, x, top, bottom);
    }

    private static void bounded(SpanSketch x, int a, int b, int low, int high) {
        Check.well("LOW from " + a + " to " + b, x, x.bound(0, a, b, false), low);
        Check.well("HIGH from " + a + " to " + b, x, x.bound(0, a, b, true), high);
    }

    /** "all of whose VALUES that aren't HEAVY": those at its ends need not be asked for. */
    private static void wholeWithoutHeavy() {
        SpanSketch x = new SpanSketch();
        for (int v : new int[] {10, 15, 19}) {
            x.put(0, v, 2);
        }
        x.make(0, 1, 1, 3);
        x.split(0, 9);
        x.split(0, 19);
        x.put(0, 12, 14);
        Check.span(x, 0, 1, 10, 19, 14, 0, 7);
        guessed(x, 11, 18, 14 + 2, 1);
        bounded(x, 11, 18, 16, 16);
        guessed(x, 10, 19, 14 + 6, 1);
        bounded(x, 10, 19, 20, 20);
        guessed(x, 12, 18, 12 + 2, 1);
        bounded(x, 12, 18, 2, 16);
        guessed(x, 11, 17, 12 + 2, 1);
        bounded(x, 11, 17, 2, 16);
        guessed(x, 10, 10, 2, 1);
        bounded(x, 10, 10, 2, 2);
        guessed(x, 15, 16, 2 + 2, 1);
        bounded(x, 15, 16, 2, 16);
    }

    /** "HEAVY ones of these count as they are": at a, at b, and just outside. */
    private static void heavyAsTheyAre() {
        SpanSketch x = new SpanSketch();
        x.put(0, 0, 5);
        x.put(0, 20, 6);
        x.put(0, 39, 7);
        x.make(0, 1, 1, 4);
        guessed(x, 0, 39, 18, 1);
        guessed(x, 0, 20, 11, 1);
        guessed(x, 20, 39, 13, 1);
        guessed(x, 1, 19, 0, 1);
        guessed(x, 1, 20, 6, 1);
        guessed(x, 20, 38, 6, 1);
        guessed(x, 21, 39, 7, 1);
        bounded(x, 0, 19, 5, 5);
        bounded(x, 21, 38, 0, 0);
        bounded(x, 38, 39, 7, 7);
        x.strike(0, 39, 7);
        bounded(x, 38, 39, 0, 0);
        guessed(x, 39, 39, 0, 1);
    }

    /** "(SPANS of LONG 0 are none.)": neither whole nor in part, whatever their COUNT. */
    private static void longNone() {
        SpanSketch x = new SpanSketch();
        x.put(0, 0, 3);
        x.put(0, 1, 3);
        x.make(0, 1, 1, 2);
        x.split(0, 1);
        x.put(1, 20, 80);
        x.put(1, 21, 80);
        x.make(1, 1, 1, 1);
        x.split(1, 1);
        x.melt(1, 0);
        Check.well("together", x, x.together(0, 1), 2);
        Check.due("COUNT", x.span(0, 0, 2), 8);
        Check.due("LONG", x.span(0, 0, 4), 0);
        guessed(x, 0, 1, 6, 1);
        guessed(x, 0, 0, 3, 1);
        bounded(x, 0, 1, 6, 6);
        bounded(x, 1, 1, 3, 3);
        Check.well("guess", x, x.guess(0, 0, 39), 1);
        Check.fraction("152 and 6", x, 158, 1);
    }

    /** "whether it is above (1), at (0) or below (-1) 0": COUNTS 1, 0 and -1. */
    private static void guessSigns() {
        SpanSketch x = new SpanSketch();
        Made.emptySpans(x, 0);
        x.put(0, 0, 10);
        x.split(0, 2);
        x.strike(0, 0, 10);
        x.put(0, 1, 11);
        guessed(x, 0, 2, 1, 1);
        guessed(x, 0, 0, 1, 3);
        x.strike(0, 1, 1);
        guessed(x, 0, 2, 0, 1);
        guessed(x, 0, 0, 0, 1);
        x.strike(0, 1, 1);
        guessed(x, 0, 2, -1, 1);
        guessed(x, 0, 0, -1, 3);
        guessed(x, 0, 1, -2, 3);
        guessed(x, 0, 39, 9, 1);
        guessed(x, 2, 3, -1 * 37 + 10 * 3, 3 * 37);
    }

    /** "STATUS tells NONE from -1": a GUESS below 0 is told with STATUS 0. */
    private static void guessOfNoneFromMinusOne() {
        SpanSketch x = new SpanSketch();
        Made.emptySpans(x, 0);
        x.put(0, 0, 5);
        x.split(0, 2);
        x.strike(0, 0, 5);
        Check.well("below 0", x, x.guess(0, 0, 2), -1);
        Check.refused("NONE", x, x.guess(0, 2, 0), 1);
        Check.well("below 0", x, x.guess(0, 0, 2), -1);
        Check.refused("NONE", x, x.guess(1, 0, 2), 5);
    }

    /** "of whole SPANS": those in part add nothing to LOW, and all of theirs to HIGH. */
    private static void lowOfWholeAlone() {
        SpanSketch x = new SpanSketch();
        Made.emptySpans(x, 0, 9, 19);
        x.put(0, 0, 3);
        x.put(0, 10, 5);
        x.put(0, 20, 9);
        bounded(x, 0, 39, 17, 17);
        bounded(x, 1, 39, 14, 17);
        bounded(x, 1, 38, 5, 17);
        bounded(x, 0, 10, 3, 8);
        bounded(x, 9, 20, 5, 17);
        bounded(x, 19, 39, 9, 14);
    }

    /** "COUNT less DOUBT, 0 at least": COUNT one below, at, and one above DOUBT. */
    private static void lowNoneAtLeast() {
        SpanSketch x = new SpanSketch();
        x.make(0, 1, 1, 1);
        Made.doubt(x, 0, 19, 6);
        int[] lows = {0, 0, 0, 0, 0, 0, 0, 1, 2};
        for (int count = 0; count < lows.length; count++) {
            Check.span(x, 0, 0, 0, 39, count, 6, 40);
            bounded(x, 0, 39, lows[count], count + 6);
            bounded(x, 0, 38, 0, count + 6);
            x.put(0, 0, 1);
        }
    }

    /** 0 at least of each whole SPAN: one with more DOUBT takes nothing from the others. */
    private static void lowOfEachSpan() {
        SpanSketch x = new SpanSketch();
        Made.emptySpans(x, 0, 19);
        x.put(0, 0, 7);
        Made.doubt(x, 0, 29, 6);
        Check.span(x, 0, 1, 20, 39, 0, 6, 20);
        bounded(x, 20, 39, 0, 6);
        bounded(x, 0, 19, 7, 7);
        bounded(x, 0, 39, 7, 13);
    }

    /** "COUNT and DOUBT, 0 at least": they are at 0 at the least as ROWS come and go. */
    private static void highNoneAtLeast() {
        SpanSketch x = new SpanSketch();
        Made.emptySpans(x, 0);
        x.put(0, 0, 5);
        x.split(0, 2);
        Check.span(x, 0, 0, 0, 2, 0, 5, 3);
        for (int left = 5; left >= 0; left--) {
            bounded(x, 0, 2, 0, left);
            bounded(x, 0, 1, 0, left);
            bounded(x, 0, 39, 0, left + 10);
            x.strike(0, 0, 1);
        }
        Check.span(x, 0, 0, 0, 2, -5, 5, 3);
    }

    /** "sure bounds": the TRUE counts lie between them, as SPANS and ROWS come and go. */
    private static void boundsBracketTruth() {
        for (int steps = 0; steps <= 12; steps++) {
            for (int a = 0; a < 40; a++) {
                between(worn(steps), a);
            }
        }
    }

    private static SpanSketch worn(int steps) {
        SpanSketch x = new SpanSketch();
        for (int v = 0; v < 40; v++) {
            x.put(0, v, 1 + v * v % 23);
        }
        x.make(0, 6, 1, 14);
        for (int step = 0; step < steps; step++) {
            x.split(0, 3 * step);
            x.strike(0, step, 1);
            x.put(0, 39 - step, 2);
            x.melt(0, step % 4);
            x.keep(0);
        }
        return x;
    }

    private static void between(SpanSketch x, int a) {
        int truth = 0;
        for (int b = a; b < 40; b++) {
            truth += x.truly(0, b);
            Check.due("LOW is sure", x.bound(0, a, b, false) <= truth, true);
            Check.due("HIGH is sure", x.bound(0, a, b, true) >= truth, true);
        }
    }

    private static void joined(SpanSketch x, int column, int other, long top, long bottom) {
        Check.well("join", x, x.join(column, other), Long.signum(top));
        Check.fraction("join of " + column + " and " + other, x, top, bottom);
    }

    /** "a HEAVY one's count, else COUNT by LONG of its SPAN": both, either, and none HEAVY. */
    private static void joinOfHeavyAndSpans() {
        SpanSketch x = new SpanSketch();
        x.put(0, 0, 7);
        x.make(0, 1, 1, 1);
        x.put(1, 0, 11);
        x.make(1, 1, 1, 1);
        joined(x, 0, 1, 77, 1);
        x.put(0, 1, 13);
        joined(x, 0, 1, 77, 1);
        x.put(1, 39, 26);
        joined(x, 0, 1, 77 * 3 + 26, 3);
        x.put(2, 0, 10);
        x.put(2, 1, 10);
        x.make(2, 1, 1, 1);
        joined(x, 0, 2, 10, 1);
        joined(x, 2, 0, 10, 1);
        x.make(2, 2, 1, 1);
        Check.span(x, 2, 0, 0, 1, 20, 0, 2);
        joined(x, 0, 2, 70 * 3 + 10, 3);
    }

    private static void joinSigns() {
        SpanSketch x = new SpanSketch();
        Made.emptySpans(x, 0);
        x.put(0, 0, 10);
        x.split(0, 0);
        x.strike(0, 0, 10);
        x.put(1, 0, 3);
        x.make(1, 1, 1, 1);
        joined(x, 0, 1, -30, 1);
        x.put(0, 0, 10);
        joined(x, 0, 1, 0, 1);
        x.put(0, 0, 1);
        joined(x, 0, 1, 3, 1);
        x.strike(0, 0, 2);
        joined(x, 0, 1, -3, 1);
        joined(x, 0, 0, 39 + 100, 39);
        Check.refused("NONE", x, x.join(0, 2), 5);
    }

    /** "1: like COLUMNS are allowed". */
    private static void joinOfLikeColumns() {
        SpanSketch x = new SpanSketch();
        for (int c = 0; c < 3; c++) {
            x.put(c, 5, 1 + c);
            x.make(c, 1, 1, 1);
            joined(x, c, c, (1 + c) * (1 + c), 1);
            Check.well("harm of like ones", x, x.harm(c, 0, 39, c, 0, 39), 1);
            Check.fraction("1", x, 1, 1);
        }
    }

    private static void harmed(SpanSketch x, int a, int b, int from, int to, long top, long bottom) {
        Check.well("harm", x, x.harm(0, a, b, 1, from, to), Long.signum(top));
        Check.fraction("harm from " + a + " to " + b + ", from " + from + " to " + to, x, top, bottom);
    }

    /** "by LOW of the other (by 1, if that is 0)": LOW 0, 1 and 2. */
    private static void harmByOne() {
        SpanSketch x = new SpanSketch();
        x.put(0, 5, 6);
        x.make(0, 1, 1, 1);
        x.put(1, 7, 2);
        x.make(1, 1, 1, 1);
        harmed(x, 0, 39, 0, 6, 6, 1);
        harmed(x, 0, 39, 0, 7, 3, 1);
        x.strike(1, 7, 1);
        harmed(x, 0, 39, 0, 7, 6, 1);
        x.strike(1, 7, 1);
        harmed(x, 0, 39, 0, 7, 6, 1);
        x.put(1, 7, 4);
        harmed(x, 0, 39, 0, 7, 3, 2);
        x.put(1, 8, 9);
        harmed(x, 0, 39, 0, 7, 3, 2);
        harmed(x, 0, 39, 0, 39, 6, 13);
    }

    /** HIGH 0 and 1: "whether it is above 0 (1), or 0". */
    private static void harmOfNone() {
        SpanSketch x = new SpanSketch();
        x.put(0, 5, 1);
        x.make(0, 1, 1, 1);
        x.put(1, 7, 3);
        x.make(1, 1, 1, 1);
        harmed(x, 0, 4, 0, 39, 0, 1);
        harmed(x, 0, 4, 0, 6, 0, 1);
        harmed(x, 0, 5, 0, 39, 1, 3);
        harmed(x, 0, 5, 0, 6, 1, 1);
        harmed(x, 6, 39, 7, 7, 0, 1);
    }

    /** HIGH is of the first COLUMN, LOW of the other one. */
    private static void harmBetweenColumns() {
        SpanSketch x = Made.oneSpan(6, 4);
        x.split(0, 9);
        x.put(1, 3, 4);
        x.make(1, 1, 1, 1);
        Check.well("HIGH", x, x.bound(0, 0, 9, true), 10);
        Check.well("harm", x, x.harm(0, 0, 9, 1, 3, 3), 1);
        Check.fraction("10 by 4", x, 5, 2);
        Check.well("harm", x, x.harm(1, 3, 3, 0, 0, 9), 1);
        Check.fraction("4 by 0, so by 1", x, 4, 1);
        Check.well("harm", x, x.harm(0, 10, 39, 0, 0, 39), 1);
        Check.fraction("16 by 0, so by 1", x, 16, 1);
    }

    /** "without a common divisor; 0 is 0 by 1"; "Its bottom, above 0". */
    private static void withoutCommonDivisor() {
        for (int count = 0; count <= 80; count++) {
            SpanSketch x = new SpanSketch();
            x.make(0, 1, 1, 1);
            Made.rows(x, 0, 0, count);
            Check.well("guess", x, x.guess(0, 20, 20), count == 0 ? 0 : 1);
            Check.due("count by 40", x.top() * 40, count * x.bottom());
            for (int divisor = 2; divisor <= 40; divisor++) {
                boolean common = x.top() % divisor == 0 && x.bottom() % divisor == 0;
                Check.due("a common divisor", common, false);
            }
        }
        SpanSketch y = new SpanSketch();
        Made.emptySpans(y, 0);
        y.put(0, 0, 8);
        y.split(0, 3);
        y.strike(0, 0, 6);
        guessed(y, 0, 0, -3, 2);
        guessed(y, 0, 3, -6, 1);
    }

    /** "The top of the FRACTION told latest": no other call tells one, and no refused one. */
    private static void toldLatest() {
        SpanSketch x = Made.oneSpan(3, 3);
        guessed(x, 0, 0, 3, 20);
        x.bound(0, 0, 39, true);
        x.put(0, 0, 5);
        x.make(0, 2, 1, 1);
        x.make(1, 1, 1, 1);
        x.together(0, 1);
        x.away(1);
        x.guess(0, 3, 2);
        x.guess(1, 0, 1);
        x.join(0, 1);
        x.join(0, 3);
        x.harm(0, 0, 1, 1, 0, 1);
        x.harm(0, 0, 1, 0, 1, 0);
        Check.fraction("the first one still", x, 3, 20);
        x.harm(0, 0, 39, 0, 0, 39);
        Check.fraction("the latest one", x, 1, 1);
        Check.fraction("and again", x, 1, 1);
    }

    /** Full COLUMNS whose SPANS have LONGS that make the greatest bottoms. */
    private static void greatFractions() {
        SpanSketch x = new SpanSketch();
        Made.emptySpans(x, 0, 4, 11, 19, 28);
        Made.emptySpans(x, 1, 6, 15, 26, 31);
        int[] ones = {0, 5, 12, 20, 29};
        int[] others = {0, 7, 16, 27, 32};
        for (int k = 0; k < 5; k++) {
            Made.rows(x, 0, ones[k], 1993);
            Made.rows(x, 1, others[k], 1997);
        }
        BigInteger top = BigInteger.ZERO;
        BigInteger bottom = BigInteger.valueOf(27_720L * 27_720L);
        long product = 1993 * 1997;
        for (int v = 0; v < 40; v++) {
            int length = lengthOf(v, new int[] {5, 7, 8, 9, 11}) * lengthOf(v, new int[] {7, 9, 11, 5, 8});
            top = top.add(bottom.multiply(BigInteger.valueOf(product)).divide(BigInteger.valueOf(length)));
        }
        BigInteger divisor = top.gcd(bottom);
        Check.well("join", x, x.join(0, 1), 1);
        Check.fraction("join", x, top.divide(divisor).longValueExact(), bottom.divide(divisor).longValueExact());
        Check.due("a great bottom: " + x.bottom(), x.bottom() > 10_000, true);
    }

    /** A HEAVY VALUE with as much as TOGETHER leaves and all ROWS after it, and the greatest bottom beside. */
    private static void greatestTop() {
        SpanSketch x = new SpanSketch();
        Made.rows(x, 2, 0, 10_000);
        x.make(2, 1, 1, 1);
        int[] ones = {4, 9, 5, 7, 13, 1};
        int[] others = {1, 4, 9, 5, 7, 13};
        heaviest(x, 0, ones);
        heaviest(x, 1, others);
        BigInteger bottom = BigInteger.valueOf(16_380L * 16_380L);
        BigInteger top = bottom.multiply(BigInteger.valueOf(109_994L * 109_994L));
        for (int v = 1; v < 40; v++) {
            int length = lengthOf(v - 1, ones) * lengthOf(v - 1, others);
            top = top.add(bottom.divide(BigInteger.valueOf(length)));
        }
        BigInteger divisor = top.gcd(bottom);
        Check.well("join", x, x.join(0, 1), 1);
        Check.fraction("join", x, top.divide(divisor).longValueExact(), bottom.divide(divisor).longValueExact());
        Check.due("a great top: " + x.top(), x.top() > 3_000_000_000_000_000_000L, true);
    }

    /** VALUE 0 is HEAVY with 109,994; behind it SPANS of these LONGS with COUNT 1 each. */
    private static void heaviest(SpanSketch x, int column, int[] lengths) {
        Made.rows(x, column, 0, 10_000);
        x.make(column, 1, 1, 1);
        Made.struck(x, column, 0, 10_000);
        int end = 0;
        for (int k = 0; k < lengths.length; k++) {
            end += lengths[k];
            x.split(column, end);
        }
        for (int times = 0; times < 10; times++) {
            Check.well("together", x, x.together(column, 2), lengths.length);
        }
        Check.refused("not once more", x, x.together(column, 2), 4);
        Made.rows(x, column, 0, 9_994);
        for (int k = 0; k < lengths.length; k++) {
            x.put(column, x.span(column, k, 1), 1);
            Check.due("COUNT", x.span(column, k, 2), 1);
            Check.due("LONG", x.span(column, k, 4), lengths[k]);
        }
        Check.well("HEAVY", x, x.heavy(column, 0), 109_994);
    }

    private static int lengthOf(int value, int[] lengths) {
        int k = 0;
        for (int end = lengths[0]; end <= value; end += lengths[k]) {
            k++;
        }
        return lengths[k];
    }
}
