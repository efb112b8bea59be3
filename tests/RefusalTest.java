import java.util.List;

/**
 * STATUS ("Terms" 4): each call with each STATUS it can have, the first of those that hold, in the
 * order that its promise asks for; and with another one than 0 nothing else changes.
 */
public final class RefusalTest {
    private static final int MIN = Integer.MIN_VALUE;
    private static final int MAX = Integer.MAX_VALUE;
    private static final int[] NO_TRAY = {-1, 4, MIN, MAX};
    private static final int[] NO_COLUMN = {-1, 3, MIN, MAX};
    private static final int[] NO_VALUE = {-1, 40, MIN, MAX};
    private static final int[] NO_ROW = {-2, 40, MIN, MAX};
    private static final List<List<Long>> UNTOUCHED = Look.at(RefusalTest::rich);

    private interface Told {
        long by(SpanSketch x);
    }

    private interface Done {
        boolean by(SpanSketch x);
    }

    public static void main(String[] args) {
        Check.due("twins are alike", Look.at(RefusalTest::rich).equals(UNTOUCHED), true);
        trays();
        write();
        read();
        pour();
        putAndStrike();
        pack();
        looksAtRows();
        make();
        looksAtSketches();
        span();
        heavyAndSplit();
        melt();
        together();
        questions();
        twoQuestions();
        samples();
        noStatus();
        statusAfterwards();
        Check.end();
    }

    /**
     * TRAYS: 0 and 1 of sort 0, 2 of sort 1, 3 MISSING. COLUMN 0: a SKETCH with all there is, and
     * a SAMPLE; 1: full, 12 SPANS, too much for a TOGETHER; 2: ROWS alone. The FRACTION is not 0.
     */
    private static SpanSketch rich() {
        SpanSketch x = new SpanSketch();
        x.tray(0, 0, 5);
        x.tray(1, 0, 100);
        x.tray(2, 1, 3);
        for (int i = 0; i < 5; i++) {
            x.write(0, i, 3 * i - 1);
            x.write(1, i, i == 4 ? 40 : 7);
            x.write(2, i, 300 + i);
        }
        x.sample(0, 4, 9);
        x.put(0, 5, 60);
        x.put(0, 6, 9);
        x.put(0, 20, 11);
        x.put(0, -1, 8);
        x.make(0, 3, 1, 2);
        x.split(0, 30);
        x.put(0, 7, 4);
        x.strike(0, 20, 2);
        Made.rows(x, 1, 8, 5000);
        Made.rows(x, 1, 30, 4900);
        Made.rows(x, 1, -1, 100);
        x.make(1, 1, 1, 1);
        for (int i = 0; i < 5; i++) {
            x.split(1, 19);
            x.melt(1, 0);
        }
        for (int v = 0; v < 11; v++) {
            x.split(1, 3 * v);
        }
        x.put(2, 3, 5);
        x.put(2, -1, 2);
        x.guess(0, 7, 12);
        return x;
    }

    private static void told(String what, int status, Told call) {
        unchanged(what, () -> {
            SpanSketch x = rich();
            Check.refused(what, x, call.by(x), status);
            return x;
        });
    }

    private static void done(String what, int status, Done call) {
        unchanged(what, () -> {
            SpanSketch x = rich();
            Check.refused(what, x, call.by(x), status);
            return x;
        });
    }

    private static void unchanged(String what, Look.Maker maker) {
        Check.due(what + ": nothing else changes", Look.at(maker).equals(UNTOUCHED), true);
    }

    private static void trays() {
        for (int t : NO_TRAY) {
            done("tray " + t, 1, x -> x.tray(t, 0, 5));
        }
        for (int wrong : new int[] {-1, 4, MIN, MAX}) {
            done("sort " + wrong, 1, x -> x.tray(0, wrong, 5));
            done("sort " + wrong, 1, x -> x.tray(3, wrong, 5));
        }
        for (int wrong : new int[] {-1, 101, MIN, MAX}) {
            done("many " + wrong, 1, x -> x.tray(0, 3, wrong));
            done("many " + wrong, 1, x -> x.tray(3, 3, wrong));
        }
    }

    /** 1, 2, 3. */
    private static void write() {
        for (int t : NO_TRAY) {
            done("write to " + t, 1, x -> x.write(t, 0, 9));
            done("1 before 3", 1, x -> x.write(t, -1, 9));
        }
        done("MISSING", 2, x -> x.write(3, 0, 9));
        done("2 before 3", 2, x -> x.write(3, 100, 9));
        done("2 before 3", 2, x -> x.write(3, -1, 9));
        for (int place : new int[] {-1, 5, 99, MIN, MAX}) {
            done("place " + place, 3, x -> x.write(0, place, 9));
        }
        done("place 100", 3, x -> x.write(1, 100, 9));
        done("place 3", 3, x -> x.write(2, 3, 9));
    }

    private static void read() {
        for (int t : NO_TRAY) {
            told("read of " + t, 1, x -> x.read(t, 0));
            told("1 before 3", 1, x -> x.read(t, 100));
        }
        told("MISSING", 2, x -> x.read(3, 0));
        told("2 before 3", 2, x -> x.read(3, -1));
        for (int place : new int[] {-1, 5, 99, MIN, MAX}) {
            told("place " + place, 3, x -> x.read(0, place));
        }
        told("place 100", 3, x -> x.read(1, 100));
    }

    /** "asked as 1, 2, 7, 3". */
    private static void pour() {
        for (int t : NO_TRAY) {
            done("pour from " + t, 1, x -> x.pour(t, 0, 1, 0, 1));
            done("pour to " + t, 1, x -> x.pour(0, 0, t, 0, 1));
            done("1 before 2", 1, x -> x.pour(t, 0, 3, 0, 1));
            done("1 before 2", 1, x -> x.pour(3, 0, t, 0, 1));
            done("1 before 3", 1, x -> x.pour(t, 200, 1, 200, 1));
        }
        for (int below : new int[] {-1, MIN}) {
            done("place " + below, 1, x -> x.pour(0, below, 1, 0, 1));
            done("at " + below, 1, x -> x.pour(0, 0, 1, below, 1));
            done("many " + below, 1, x -> x.pour(0, 0, 1, 0, below));
            done("1 before 2", 1, x -> x.pour(3, below, 3, 0, 1));
            done("1 before 2", 1, x -> x.pour(3, 0, 3, below, 1));
            done("1 before 2", 1, x -> x.pour(3, 0, 3, 0, below));
            done("1 before 7", 1, x -> x.pour(0, below, 2, 0, 1));
            done("1 before 7", 1, x -> x.pour(0, 0, 2, 0, below));
            done("1 before 3", 1, x -> x.pour(0, 9, 1, below, 1));
        }
        done("MISSING from", 2, x -> x.pour(3, 0, 0, 0, 1));
        done("MISSING to", 2, x -> x.pour(0, 0, 3, 0, 1));
        done("both MISSING", 2, x -> x.pour(3, 0, 3, 0, 0));
        done("2 before 3", 2, x -> x.pour(3, 0, 0, 9, 1));
        done("2 before 3", 2, x -> x.pour(0, 9, 3, 0, 1));
        done("unlike", 7, x -> x.pour(0, 0, 2, 0, 1));
        done("unlike", 7, x -> x.pour(2, 0, 1, 0, 3));
        done("7 before 3", 7, x -> x.pour(0, 9, 2, 0, 1));
        done("7 before 3", 7, x -> x.pour(0, 0, 2, 9, 1));
        done("7 before 3", 7, x -> x.pour(0, 0, 2, 0, MAX));
        done("place", 3, x -> x.pour(0, 5, 1, 0, 1));
        done("place", 3, x -> x.pour(1, 0, 0, 4, 2));
        done("many", 3, x -> x.pour(1, 0, 0, 0, 6));
        done("its own", 3, x -> x.pour(0, 0, 0, 1, 5));
    }

    /** 1, 4. */
    private static void putAndStrike() {
        for (int c : NO_COLUMN) {
            done("put in " + c, 1, x -> x.put(c, 5, 1));
            done("strike in " + c, 1, x -> x.strike(c, 5, 1));
        }
        for (int v : NO_ROW) {
            done("put of " + v, 1, x -> x.put(0, v, 1));
            done("strike of " + v, 1, x -> x.strike(0, v, 1));
            done("1 before 4", 1, x -> x.put(1, v, 1));
        }
        for (int many : new int[] {0, -1, 1001, MIN, MAX}) {
            done("put " + many, 1, x -> x.put(0, 5, many));
            done("put NULL rows " + many, 1, x -> x.put(2, -1, many));
            done("strike " + many, 1, x -> x.strike(1, 8, many));
            done("1 before 4", 1, x -> x.put(1, 5, many));
            done("1 before 4", 1, x -> x.strike(0, 39, many));
        }
        done("full", 4, x -> x.put(1, 8, 1));
        done("full", 4, x -> x.put(1, -1, 1000));
        done("one more than there are", 4, x -> x.strike(0, 5, 61));
        done("one more than there are", 4, x -> x.strike(0, 20, 10));
        done("one more NULL row than there are", 4, x -> x.strike(0, -1, 9));
        done("none there", 4, x -> x.strike(0, 0, 1));
        done("none there", 4, x -> x.strike(2, 4, 1000));
    }

    /** "asked as 1 (COLUMN, TRAY), 2, 1 (numbers), 4". */
    private static void pack() {
        for (int wrong : NO_COLUMN) {
            told("pack into " + wrong, 1, x -> x.pack(wrong, 0));
            told("1 before 2", 1, x -> x.pack(wrong, 3));
        }
        for (int wrong : NO_TRAY) {
            told("pack of " + wrong, 1, x -> x.pack(0, wrong));
            told("1 before 4", 1, x -> x.pack(1, wrong));
        }
        told("MISSING", 2, x -> x.pack(0, 3));
        told("2 before 4", 2, x -> x.pack(1, 3));
        told("a number that is none", 1, x -> x.pack(0, 1));
        told("numbers that are none", 1, x -> x.pack(2, 2));
        told("numbers before 4", 1, x -> x.pack(1, 1));
        told("full", 4, x -> x.pack(1, 0));
    }

    private static void looksAtRows() {
        for (int c : NO_COLUMN) {
            told("truly of " + c, 1, x -> x.truly(c, 0));
            told("rows of " + c, 1, x -> x.rows(c, 0));
        }
        for (int v : NO_ROW) {
            told("truly " + v, 1, x -> x.truly(0, v));
        }
        for (int what : new int[] {-1, 3, MIN, MAX}) {
            told("rows, what " + what, 1, x -> x.rows(0, what));
        }
    }

    private static void make() {
        for (int c : NO_COLUMN) {
            told("make of " + c, 1, x -> x.make(c, 3, 0, 1));
        }
        for (int b : new int[] {0, -1, 13, MIN, MAX}) {
            told("make, b " + b, 1, x -> x.make(0, b, 0, 1));
            told("make, b " + b, 1, x -> x.make(2, b, 0, 1));
        }
        for (int d : new int[] {0, -1, 1001, MIN, MAX}) {
            told("make, d " + d, 1, x -> x.make(0, 2, 0, d));
            told("make, n and d " + d, 1, x -> x.make(0, 2, d, d));
        }
        for (int n : new int[] {-1, 6, MIN, MAX}) {
            told("make, n " + n, 1, x -> x.make(0, 2, n, 5));
            told("make, n " + n, 1, x -> x.make(2, 2, n, 5));
        }
    }

    /** Of those that ask for 1 and 5 alone. */
    private static void looksAtSketches() {
        for (int c : NO_COLUMN) {
            done("away " + c, 1, x -> x.away(c));
            told("sketch of " + c, 1, x -> x.sketch(c, 0));
            told("keep of " + c, 1, x -> x.keep(c));
            told("drifts of " + c, 1, x -> x.drifts(c));
        }
        done("away", 5, x -> x.away(2));
        told("keep", 5, x -> x.keep(2));
        told("drifts", 5, x -> x.drifts(2));
        for (int what = 0; what < 4; what++) {
            int asked = what;
            told("sketch, what " + what, 5, x -> x.sketch(2, asked));
        }
        for (int what : new int[] {-1, 4, MIN, MAX}) {
            told("sketch, what " + what, 1, x -> x.sketch(0, what));
            told("1 before 5", 1, x -> x.sketch(2, what));
        }
    }

    /** "asked as 1, 5, 1". */
    private static void span() {
        for (int c : NO_COLUMN) {
            told("span of " + c, 1, x -> x.span(c, 0, 0));
            told("span of " + c, 1, x -> x.span(c, 99, 99));
        }
        told("span", 5, x -> x.span(2, 0, 0));
        for (int wrong : new int[] {-1, 12, MIN, MAX}) {
            told("5 before k", 5, x -> x.span(2, wrong, 0));
            told("5 before what", 5, x -> x.span(2, 0, wrong));
            told("SPAN " + wrong, 1, x -> x.span(0, wrong, 0));
            told("SPAN " + wrong, 1, x -> x.span(1, wrong, 0));
            told("what " + wrong, 1, x -> x.span(0, 0, wrong));
        }
        told("SPAN 4 of 4", 1, x -> x.span(0, 4, 0));
        told("what 5", 1, x -> x.span(0, 0, 5));
    }

    /** 1, 5, 6. */
    private static void heavyAndSplit() {
        for (int c : NO_COLUMN) {
            told("heavy of " + c, 1, x -> x.heavy(c, 5));
            told("split of " + c, 1, x -> x.split(c, 5));
        }
        for (int v : NO_VALUE) {
            told("heavy " + v, 1, x -> x.heavy(0, v));
            told("split " + v, 1, x -> x.split(0, v));
            told("1 before 5", 1, x -> x.heavy(2, v));
            told("1 before 5", 1, x -> x.split(2, v));
            told("1 before 6", 1, x -> x.split(1, v));
        }
        told("heavy", 5, x -> x.heavy(2, 3));
        told("5 before 6", 5, x -> x.heavy(2, 4));
        told("split", 5, x -> x.split(2, 3));
        told("5 before 6", 5, x -> x.split(2, 39));
        told("not HEAVY", 6, x -> x.heavy(0, 6));
        told("not HEAVY", 6, x -> x.heavy(1, 8));
        told("the last VALUE", 6, x -> x.split(0, 39));
        told("the last VALUE of its SPAN", 6, x -> x.split(0, 30));
        told("there are 12", 6, x -> x.split(1, 20));
        told("there are 12", 6, x -> x.split(1, 30));
    }

    /** "1: COLUMN; 5; 6: there are no two". */
    private static void melt() {
        for (int c : NO_COLUMN) {
            done("melt of " + c, 1, x -> x.melt(c, 0));
            done("1 before 6", 1, x -> x.melt(c, -1));
        }
        for (int k : new int[] {0, -1, 12, MIN, MAX}) {
            done("5 before 6", 5, x -> x.melt(2, k));
        }
        for (int k : new int[] {-1, 3, 4, 11, MIN, MAX}) {
            done("melt of " + k, 6, x -> x.melt(0, k));
        }
        for (int k : new int[] {-1, 11, 12, MIN, MAX}) {
            done("melt of " + k, 6, x -> x.melt(1, k));
        }
    }

    /** "asked as 1, 5, 4". */
    private static void together() {
        for (int c : NO_COLUMN) {
            for (int o = 0; o < 3; o++) {
                int other = o;
                told("together of " + c, 1, x -> x.together(c, other));
                told("together with " + c, 1, x -> x.together(other, c));
            }
        }
        for (int c = 0; c < 3; c++) {
            int like = c;
            told("like ones", 1, x -> x.together(like, like));
        }
        told("the COLUMN has none", 5, x -> x.together(2, 0));
        told("the other one has none", 5, x -> x.together(0, 2));
        told("5 before 4", 5, x -> x.together(1, 2));
        told("5 before 4", 5, x -> x.together(2, 1));
        told("too much", 4, x -> x.together(0, 1));
        told("too much", 4, x -> x.together(1, 0));
    }

    /** 1, 5. */
    private static void questions() {
        for (int c : NO_COLUMN) {
            told("guess of " + c, 1, x -> x.guess(c, 0, 39));
            told("LOW of " + c, 1, x -> x.bound(c, 0, 39, false));
            told("HIGH of " + c, 1, x -> x.bound(c, 0, 39, true));
        }
        for (int v : NO_VALUE) {
            for (int c : new int[] {0, 2}) {
                told("guess, a " + v, 1, x -> x.guess(c, v, 39));
                told("guess, b " + v, 1, x -> x.guess(c, 0, v));
                told("LOW, a " + v, 1, x -> x.bound(c, v, 39, false));
                told("HIGH, b " + v, 1, x -> x.bound(c, 0, v, true));
            }
        }
        for (int c : new int[] {0, 2}) {
            told("guess, a above b", 1, x -> x.guess(c, 8, 7));
            told("LOW, a above b", 1, x -> x.bound(c, 8, 7, false));
            told("HIGH, a above b", 1, x -> x.bound(c, 39, 0, true));
        }
        told("guess", 5, x -> x.guess(2, 7, 8));
        told("LOW", 5, x -> x.bound(2, 7, 7, false));
        told("HIGH", 5, x -> x.bound(2, 0, 39, true));
    }

    private static void twoQuestions() {
        for (int c : NO_COLUMN) {
            for (int o : new int[] {0, 2}) {
                told("join of " + c, 1, x -> x.join(c, o));
                told("join with " + c, 1, x -> x.join(o, c));
                told("harm of " + c, 1, x -> x.harm(c, 0, 39, o, 0, 39));
                told("harm against " + c, 1, x -> x.harm(o, 0, 39, c, 0, 39));
            }
        }
        for (int v : NO_VALUE) {
            for (int o : new int[] {0, 2}) {
                told("harm, a " + v, 1, x -> x.harm(0, v, 39, o, 0, 39));
                told("harm, b " + v, 1, x -> x.harm(0, 0, v, o, 0, 39));
                told("harm, from " + v, 1, x -> x.harm(o, 0, 39, 0, v, 39));
                told("harm, to " + v, 1, x -> x.harm(o, 0, 39, 0, 0, v));
            }
        }
        for (int c : new int[] {0, 2}) {
            told("harm, a above b", 1, x -> x.harm(c, 8, 7, 0, 0, 39));
            told("harm, from above to", 1, x -> x.harm(0, 0, 39, c, 8, 7));
        }
        told("join", 5, x -> x.join(0, 2));
        told("join", 5, x -> x.join(2, 0));
        told("join", 5, x -> x.join(2, 2));
        told("harm", 5, x -> x.harm(0, 0, 39, 2, 0, 39));
        told("harm", 5, x -> x.harm(2, 0, 39, 0, 0, 39));
        told("harm", 5, x -> x.harm(2, 0, 39, 2, 0, 39));
    }

    private static void samples() {
        for (int c : NO_COLUMN) {
            done("sample of " + c, 1, x -> x.sample(c, 4, 1));
            told("drawn of " + c, 1, x -> x.drawn(c, 0));
        }
        for (int k : new int[] {0, -1, 17, MIN, MAX}) {
            done("sample, k " + k, 1, x -> x.sample(0, k, 1));
            done("sample, k " + k, 1, x -> x.sample(2, k, 1));
        }
        for (int seed : new int[] {-1, MIN}) {
            done("sample, SEED " + seed, 1, x -> x.sample(0, 3, seed));
            done("sample, SEED " + seed, 1, x -> x.sample(2, 3, seed));
        }
        for (int k : new int[] {-1, 16, MIN, MAX}) {
            told("drawn, place " + k, 1, x -> x.drawn(0, k));
            told("1 before 6", 1, x -> x.drawn(2, k));
        }
        told("place 4 of 4", 6, x -> x.drawn(0, 4));
        told("place 15 of 4", 6, x -> x.drawn(0, 15));
        told("no SAMPLE", 6, x -> x.drawn(2, 0));
    }

    /** "status(), top(), bottom() have none." */
    private static void noStatus() {
        for (int status : new int[] {0, 1, 2, 3, 4, 5, 6, 7}) {
            SpanSketch x = rich();
            withStatus(x, status);
            Check.due("status()", x.status(), status);
            x.top();
            x.bottom();
            x.status();
            Check.due("status() still", x.status(), status);
        }
    }

    private static void withStatus(SpanSketch x, int status) {
        switch (status) {
            case 1: x.rows(3, 0); break;
            case 2: x.read(3, 0); break;
            case 3: x.read(0, 5); break;
            case 4: x.put(1, 0, 1); break;
            case 5: x.keep(2); break;
            case 6: x.heavy(0, 6); break;
            case 7: x.pour(0, 0, 2, 0, 1); break;
            default: x.rows(0, 0); break;
        }
    }

    /** "STATUS of the latest call that has one": also from one refusal to another, and to 0. */
    private static void statusAfterwards() {
        SpanSketch x = rich();
        for (int before = 0; before < 8; before++) {
            for (int after = 0; after < 8; after++) {
                withStatus(x, before);
                withStatus(x, after);
                Check.due("from " + before, x.status(), after);
            }
        }
    }
}
