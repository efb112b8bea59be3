import java.util.Arrays;

/** Keeps how the values of three columns lie, as spans with counts and some heavy values apart. */
public final class SpanSketch {
    public static final int NONE = -1;

    private static final int TRAYS = 4;
    private static final int TRAY_PLACES = 100;
    private static final int COLUMNS = 3;
    private static final int VALUES = 40;
    private static final int LAST_VALUE = VALUES - 1;
    private static final int MOST_ROWS = 10_000;
    private static final int MOST_AT_ONCE = 1_000;
    private static final int MOST_SPANS = 12;
    private static final int MOST_HEAVY = 8;
    private static final int MOST_PARTS = 1_000;
    private static final int MOST_DOUBT = 1_000_000;
    private static final int MOST_TOGETHER = 100_000;
    private static final int SAMPLE_PLACES = 16;
    private static final int NULL_DRAWN = -2;

    // Two SKETCHES of 12 SPANS, each SPLIT where the other's end, have 23 pieces at most.
    private static final int MOST_PIECES = 2 * MOST_SPANS;
    // Stands above every sum of ERRORS and leaves room for one more ERROR without a wrap-around.
    private static final int FAR = 1_000_000_000;

    private static final int FINE = 0;
    private static final int WRONG = 1;
    private static final int MISSING = 2;
    private static final int NO_PLACE = 3;
    private static final int TOO_MANY = 4;
    private static final int NO_SKETCH = 5;
    private static final int NONE_SUCH = 6;
    private static final int UNLIKE = 7;

    private final Tray[] trays = new Tray[TRAYS];
    private final Column[] columns = new Column[COLUMNS];
    private final Planner planner = new Planner();
    private final Sketch spare = new Sketch();
    private final Fraction fraction = new Fraction();
    private int status = FINE;

    public SpanSketch() {
        for (int i = 0; i < TRAYS; i++) {
            trays[i] = new Tray();
        }
        for (int i = 0; i < COLUMNS; i++) {
            columns[i] = new Column();
        }
    }

    public int status() {
        return status;
    }

    public long top() {
        return fraction.top;
    }

    public long bottom() {
        return fraction.bottom;
    }

    // ---- TRAYS

    public boolean tray(int tray, int sort, int many) {
        Tray t = trayAt(tray);
        if (t == null || !within(sort, 0, Tray.LAST_SORT) || !within(many, 0, TRAY_PLACES)) {
            return no(WRONG);
        }
        t.lay(sort, many);
        return yes();
    }

    public boolean write(int tray, int place, long v) {
        Tray t = trayAt(tray);
        if (t == null) {
            return no(WRONG);
        }
        if (!t.there) {
            return no(MISSING);
        }
        if (!t.has(place, 1)) {
            return no(NO_PLACE);
        }
        t.numbers[place] = t.fitted(v);
        return yes();
    }

    public long read(int tray, int place) {
        Tray t = trayAt(tray);
        if (t == null) {
            return none(WRONG);
        }
        if (!t.there) {
            return none(MISSING);
        }
        if (!t.has(place, 1)) {
            return none(NO_PLACE);
        }
        status = FINE;
        return t.numbers[place];
    }

    public boolean pour(int from, int place, int to, int at, int many) {
        Tray source = trayAt(from);
        Tray target = trayAt(to);
        if (source == null || target == null || place < 0 || at < 0 || many < 0) {
            return no(WRONG);
        }
        if (!source.there || !target.there) {
            return no(MISSING);
        }
        if (source.sort != target.sort) {
            return no(UNLIKE);
        }
        if (!source.has(place, many) || !target.has(at, many)) {
            return no(NO_PLACE);
        }
        System.arraycopy(source.numbers, place, target.numbers, at, many);
        return yes();
    }

    // ---- ROWS

    public boolean put(int column, int value, int many) {
        Column c = columnAt(column);
        if (c == null || !isValueOrNone(value) || !within(many, 1, MOST_AT_ONCE)) {
            return no(WRONG);
        }
        if (!c.hasRoom(many)) {
            return no(TOO_MANY);
        }
        c.enter(value, many);
        return yes();
    }

    public boolean strike(int column, int value, int many) {
        Column c = columnAt(column);
        if (c == null || !isValueOrNone(value) || !within(many, 1, MOST_AT_ONCE)) {
            return no(WRONG);
        }
        if (c.trueCount(value) < many) {
            return no(TOO_MANY);
        }
        c.change(value, -many);
        return yes();
    }

    public int pack(int column, int tray) {
        Column c = columnAt(column);
        Tray t = trayAt(tray);
        if (c == null || t == null) {
            return none(WRONG);
        }
        if (!t.there) {
            return none(MISSING);
        }
        if (!t.holdsRowsAlone()) {
            return none(WRONG);
        }
        if (!c.hasRoom(t.size)) {
            return none(TOO_MANY);
        }
        for (int i = 0; i < t.size; i++) {
            c.enter((int) t.numbers[i], 1);
        }
        return told(t.size);
    }

    public int truly(int column, int value) {
        Column c = columnAt(column);
        if (c == null || !isValueOrNone(value)) {
            return none(WRONG);
        }
        return told(c.trueCount(value));
    }

    public int rows(int column, int what) {
        Column c = columnAt(column);
        if (c == null) {
            return none(WRONG);
        }
        switch (what) {
            case 0:
                return told(c.valued);
            case 1:
                return told(c.allRows());
            case 2:
                return told(c.valuesWithRows());
            default:
                return none(WRONG);
        }
    }

    // ---- SKETCHES

    public int make(int column, int b, int n, int d) {
        Column c = columnAt(column);
        if (c == null || !within(b, 1, MOST_SPANS) || !within(d, 1, MOST_PARTS) || !within(n, 0, d)) {
            return none(WRONG);
        }
        c.sketch.chooseHeavy(c.counts, c.valued, n, d);
        planner.lookAt(c.counts, c.sketch.isHeavy);
        int error = planner.plan(b);
        c.sketch.begin(planner.ends, b, c.counts);
        return told(error);
    }

    public boolean away(int column) {
        Column c = columnAt(column);
        if (c == null) {
            return no(WRONG);
        }
        if (!c.sketch.isThere()) {
            return no(NO_SKETCH);
        }
        c.sketch.size = 0;
        return yes();
    }

    public int sketch(int column, int what) {
        Column c = columnAt(column);
        if (c == null || !within(what, 0, 3)) {
            return none(WRONG);
        }
        if (!c.sketch.isThere()) {
            return none(NO_SKETCH);
        }
        switch (what) {
            case 0:
                return told(c.sketch.size);
            case 1:
                return told(c.sketch.heavyMany());
            case 2:
                return told(c.sketch.allDoubts());
            default:
                return told(c.sketch.allCounts());
        }
    }

    public int span(int column, int k, int what) {
        Column c = columnAt(column);
        if (c == null) {
            return none(WRONG);
        }
        Sketch s = c.sketch;
        if (!s.isThere()) {
            return none(NO_SKETCH);
        }
        if (!within(k, 0, s.size - 1)) {
            return none(WRONG);
        }
        switch (what) {
            case 0:
                return told(s.firstOf(k));
            case 1:
                return told(s.ends[k]);
            case 2:
                return told(s.counts[k]);
            case 3:
                return told(s.doubts[k]);
            case 4:
                return told(s.longOf(k));
            default:
                return none(WRONG);
        }
    }

    public int heavy(int column, int value) {
        Column c = columnAt(column);
        if (c == null || !isValue(value)) {
            return none(WRONG);
        }
        if (!c.sketch.isThere()) {
            return none(NO_SKETCH);
        }
        if (!c.sketch.isHeavy[value]) {
            return none(NONE_SUCH);
        }
        return told(c.sketch.heavyCounts[value]);
    }

    public int split(int column, int value) {
        Column c = columnAt(column);
        if (c == null || !isValue(value)) {
            return none(WRONG);
        }
        Sketch s = c.sketch;
        if (!s.isThere()) {
            return none(NO_SKETCH);
        }
        if (s.endsAt(value) || s.size >= MOST_SPANS) {
            return none(NONE_SUCH);
        }
        int k = s.spanOf(value);
        s.cut(k, value);
        return told(k);
    }

    public boolean melt(int column, int k) {
        Column c = columnAt(column);
        if (c == null) {
            return no(WRONG);
        }
        if (!c.sketch.isThere()) {
            return no(NO_SKETCH);
        }
        if (!within(k, 0, c.sketch.size - 2)) {
            return no(NONE_SUCH);
        }
        c.sketch.fuse(k);
        return yes();
    }

    public int keep(int column) {
        Column c = columnAt(column);
        if (c == null) {
            return none(WRONG);
        }
        if (!c.sketch.isThere()) {
            return none(NO_SKETCH);
        }
        return told(c.sketch.rebalance() ? 1 : 0);
    }

    public int together(int column, int other) {
        Column c = columnAt(column);
        Column o = columnAt(other);
        if (c == null || o == null || column == other) {
            return none(WRONG);
        }
        if (!c.sketch.isThere() || !o.sketch.isThere()) {
            return none(NO_SKETCH);
        }
        if (c.sketch.weight() + o.sketch.weight() > MOST_TOGETHER) {
            return none(TOO_MANY);
        }
        spare.copyOf(o.sketch);
        c.sketch.takeIn(spare);
        return told(c.sketch.size);
    }

    public int drifts(int column) {
        Column c = columnAt(column);
        if (c == null) {
            return none(WRONG);
        }
        if (!c.sketch.isThere()) {
            return none(NO_SKETCH);
        }
        return told(c.sketch.drifts);
    }

    // ---- QUESTIONS

    public int guess(int column, int a, int b) {
        Column c = columnAt(column);
        if (c == null || !isQuestion(a, b)) {
            return none(WRONG);
        }
        if (!c.sketch.isThere()) {
            return none(NO_SKETCH);
        }
        c.sketch.guessInto(fraction, a, b);
        return told(fraction.sign());
    }

    public int bound(int column, int a, int b, boolean high) {
        Column c = columnAt(column);
        if (c == null || !isQuestion(a, b)) {
            return none(WRONG);
        }
        if (!c.sketch.isThere()) {
            return none(NO_SKETCH);
        }
        return told(high ? c.sketch.highOf(a, b) : c.sketch.lowOf(a, b));
    }

    public int join(int column, int other) {
        Column c = columnAt(column);
        Column o = columnAt(other);
        if (c == null || o == null) {
            return none(WRONG);
        }
        if (!c.sketch.isThere() || !o.sketch.isThere()) {
            return none(NO_SKETCH);
        }
        c.sketch.joinInto(fraction, o.sketch);
        return told(fraction.sign());
    }

    public int harm(int column, int a, int b, int other, int from, int to) {
        Column c = columnAt(column);
        Column o = columnAt(other);
        if (c == null || o == null || !isQuestion(a, b) || !isQuestion(from, to)) {
            return none(WRONG);
        }
        if (!c.sketch.isThere() || !o.sketch.isThere()) {
            return none(NO_SKETCH);
        }
        fraction.set(c.sketch.highOf(a, b), Math.max(1, o.sketch.lowOf(from, to)));
        return told(fraction.sign());
    }

    // ---- a SAMPLE

    public boolean sample(int column, int k, int seed) {
        Column c = columnAt(column);
        if (c == null || !within(k, 1, SAMPLE_PLACES) || seed < 0) {
            return no(WRONG);
        }
        c.sample.begin(k, seed);
        return yes();
    }

    public int drawn(int column, int k) {
        Column c = columnAt(column);
        if (c == null || !within(k, 0, SAMPLE_PLACES - 1)) {
            return none(WRONG);
        }
        if (k >= c.sample.held()) {
            return none(NONE_SUCH);
        }
        int value = c.sample.places[k];
        return told(value == NONE ? NULL_DRAWN : value);
    }

    // ---- what several calls need

    private Tray trayAt(int tray) {
        return within(tray, 0, TRAYS - 1) ? trays[tray] : null;
    }

    private Column columnAt(int column) {
        return within(column, 0, COLUMNS - 1) ? columns[column] : null;
    }

    private int none(int code) {
        status = code;
        return NONE;
    }

    private boolean no(int code) {
        status = code;
        return false;
    }

    private int told(int answer) {
        status = FINE;
        return answer;
    }

    private boolean yes() {
        status = FINE;
        return true;
    }

    private static boolean within(long number, long least, long greatest) {
        return number >= least && number <= greatest;
    }

    private static boolean isValue(int value) {
        return within(value, 0, LAST_VALUE);
    }

    private static boolean isValueOrNone(long value) {
        return within(value, NONE, LAST_VALUE);
    }

    private static boolean isQuestion(int a, int b) {
        return isValue(a) && isValue(b) && a <= b;
    }

    /** A row of numbers of one sort; its places are kept for all the rows it will ever be. */
    private static final class Tray {
        static final int LAST_SORT = 3;

        final long[] numbers = new long[TRAY_PLACES];
        boolean there;
        int sort;
        int size;

        void lay(int newSort, int many) {
            there = true;
            sort = newSort;
            size = many;
            Arrays.fill(numbers, 0L);
        }

        boolean has(int place, int many) {
            return place >= 0 && many >= 0 && place <= size - many;
        }

        long fitted(long v) {
            switch (sort) {
                case 0:
                    return (byte) v;
                case 1:
                    return (short) v;
                case 2:
                    return (int) v;
                default:
                    return v;
            }
        }

        boolean holdsRowsAlone() {
            for (int i = 0; i < size; i++) {
                if (!isValueOrNone(numbers[i])) {
                    return false;
                }
            }
            return true;
        }
    }

    /** The TRUE counts of a COLUMN, with its SKETCH and its SAMPLE. */
    private static final class Column {
        final int[] counts = new int[VALUES];
        final Sketch sketch = new Sketch();
        final Sample sample = new Sample();
        int valued;
        int nulls;

        int allRows() {
            return valued + nulls;
        }

        boolean hasRoom(int many) {
            return many <= MOST_ROWS - allRows();
        }

        int trueCount(int value) {
            return isValue(value) ? counts[value] : nulls;
        }

        int valuesWithRows() {
            int many = 0;
            for (int v = 0; v < VALUES; v++) {
                if (counts[v] > 0) {
                    many++;
                }
            }
            return many;
        }

        void enter(int value, int many) {
            change(value, many);
            sample.take(value, many);
        }

        void change(int value, int by) {
            if (!isValue(value)) {
                nulls += by;
                return;
            }
            counts[value] += by;
            valued += by;
            sketch.shift(value, by);
        }
    }

    /** Some ROWS by lot; there is none as long as it has no size. */
    private static final class Sample {
        private static final long FACTOR = 1_103_515_245L;
        private static final long STEP = 12_345L;
        private static final long LOWER_31_BITS = 0x7fffffffL;
        private static final int LOT_UNIT = 65_536;
        // Far above what 512 calls can put, and far below where the count would wrap around.
        private static final int MOST_SEEN = 1_000_000_000;

        final int[] places = new int[SAMPLE_PLACES];
        private int size;
        private int seed;
        private int seen;

        void begin(int k, int newSeed) {
            size = k;
            seed = newSeed;
            seen = 0;
        }

        int held() {
            return Math.min(seen, size);
        }

        void take(int value, int many) {
            if (size == 0) {
                return;
            }
            for (int i = 0; i < many; i++) {
                takeOne(value);
            }
        }

        private void takeOne(int value) {
            // The count is a divisor, so it must never come to 0 again.
            if (seen < MOST_SEEN) {
                seen++;
            }
            int place = seen <= size ? seen - 1 : nextLot();
            if (place >= 0 && place < size && place < SAMPLE_PLACES) {
                places[place] = value;
            }
        }

        private int nextLot() {
            seed = (int) ((FACTOR * seed + STEP) & LOWER_31_BITS);
            return seen > 0 ? seed / LOT_UNIT % seen : NONE;
        }
    }

    /** HEAVY VALUES, and SPANS by their last VALUES; there is none as long as it has no SPANS. */
    private static final class Sketch {
        final int[] ends = new int[MOST_PIECES];
        final int[] counts = new int[MOST_PIECES];
        final int[] doubts = new int[MOST_PIECES];
        final boolean[] isHeavy = new boolean[VALUES];
        final int[] heavyCounts = new int[VALUES];
        int size;
        int drifts;

        boolean isThere() {
            return size > 0;
        }

        // ---- MAKING

        void chooseHeavy(int[] truth, int all, int n, int d) {
            for (int v = 0; v < VALUES; v++) {
                isHeavy[v] = false;
                heavyCounts[v] = 0;
            }
            for (int chosen = 0; chosen < MOST_HEAVY; chosen++) {
                int v = greatestPlain(truth);
                // The greatest left over decides for all that are left: none of them has more.
                if (v == NONE || (long) truth[v] * d < (long) all * n) {
                    return;
                }
                isHeavy[v] = true;
                heavyCounts[v] = truth[v];
            }
        }

        private int greatestPlain(int[] truth) {
            int greatest = 0;
            int at = NONE;
            for (int v = 0; v < VALUES; v++) {
                if (!isHeavy[v] && truth[v] > greatest) {
                    greatest = truth[v];
                    at = v;
                }
            }
            return at;
        }

        void begin(int[] newEnds, int many, int[] truth) {
            size = many;
            drifts = 0;
            for (int k = 0; k < many; k++) {
                ends[k] = newEnds[k];
                counts[k] = 0;
                doubts[k] = 0;
                for (int v = firstOf(k); v <= newEnds[k]; v++) {
                    counts[k] += isHeavy[v] ? 0 : truth[v];
                }
            }
        }

        void copyOf(Sketch other) {
            size = other.size;
            drifts = other.drifts;
            System.arraycopy(other.ends, 0, ends, 0, MOST_PIECES);
            System.arraycopy(other.counts, 0, counts, 0, MOST_PIECES);
            System.arraycopy(other.doubts, 0, doubts, 0, MOST_PIECES);
            System.arraycopy(other.heavyCounts, 0, heavyCounts, 0, VALUES);
            for (int v = 0; v < VALUES; v++) {
                isHeavy[v] = other.isHeavy[v];
            }
        }

        void shift(int value, int by) {
            if (!isThere()) {
                return;
            }
            drifts += Math.abs(by);
            if (isHeavy[value]) {
                heavyCounts[value] += by;
            } else {
                counts[spanOf(value)] += by;
            }
        }

        // ---- looks

        int spanOf(int value) {
            int k = 0;
            while (k < size - 1 && ends[k] < value) {
                k++;
            }
            return k;
        }

        boolean endsAt(int value) {
            return ends[spanOf(value)] == value;
        }

        int firstOf(int k) {
            return k > 0 ? ends[k - 1] + 1 : 0;
        }

        int longOf(int k) {
            return plainBetween(firstOf(k), ends[k]);
        }

        private int plainBetween(int from, int to) {
            int many = 0;
            for (int v = Math.max(from, 0); v <= to && v < VALUES; v++) {
                if (!isHeavy[v]) {
                    many++;
                }
            }
            return many;
        }

        int heavyMany() {
            return VALUES - plainBetween(0, LAST_VALUE);
        }

        int allCounts() {
            int sum = 0;
            for (int k = 0; k < size; k++) {
                sum += counts[k];
            }
            return sum;
        }

        int allDoubts() {
            int sum = 0;
            for (int k = 0; k < size; k++) {
                sum += doubts[k];
            }
            return sum;
        }

        /** All COUNTS, DOUBTS and HEAVY counts. */
        int weight() {
            return allCounts() + allDoubts() + heavyBetween(0, LAST_VALUE);
        }

        private int heavyBetween(int a, int b) {
            int sum = 0;
            for (int v = Math.max(a, 0); v <= b && v < VALUES; v++) {
                sum += isHeavy[v] ? heavyCounts[v] : 0;
            }
            return sum;
        }

        // ---- SPLIT, MELT, KEEPING, TOGETHER

        /** SPLIT of SPAN k behind a VALUE of it. */
        void cut(int k, int value) {
            if (k < 0 || k >= size || size >= MOST_PIECES) {
                return;
            }
            int left = plainBetween(firstOf(k), value);
            int right = plainBetween(value + 1, ends[k]);
            int count = counts[k];
            int doubt = doubts[k];
            doublePlace(k);
            ends[k] = value;
            if (left == 0) {
                setPiece(k, 0, 0);
            } else if (right == 0) {
                setPiece(k + 1, 0, 0);
            } else {
                int part = (int) Math.floorDiv((long) count * left, (long) (left + right));
                setPiece(k, part, pieceDoubt(part, count, doubt));
                setPiece(k + 1, count - part, pieceDoubt(count - part, count, doubt));
            }
        }

        private void doublePlace(int k) {
            int behind = size - k;
            System.arraycopy(ends, k, ends, k + 1, behind);
            System.arraycopy(counts, k, counts, k + 1, behind);
            System.arraycopy(doubts, k, doubts, k + 1, behind);
            size++;
        }

        private void setPiece(int k, int count, int doubt) {
            counts[k] = count;
            doubts[k] = doubt;
        }

        private static int pieceDoubt(int own, int count, int doubt) {
            return limited(Math.max(0, Math.max(own, count + doubt - own)));
        }

        private static int limited(int doubt) {
            return Math.min(doubt, MOST_DOUBT);
        }

        /** MELT of SPAN k and the next one. */
        void fuse(int k) {
            if (k < 0 || k >= size - 1) {
                return;
            }
            int count = counts[k] + counts[k + 1];
            int doubt = limited(doubts[k] + doubts[k + 1]);
            int behind = size - k - 1;
            System.arraycopy(ends, k + 1, ends, k, behind);
            System.arraycopy(counts, k + 1, counts, k, behind);
            System.arraycopy(doubts, k + 1, doubts, k, behind);
            size--;
            setPiece(k, count, doubt);
        }

        /** KEEPING: whether it did something. */
        boolean rebalance() {
            int greatest = greatestLong();
            int pair = leastPair(greatest);
            if (greatest == NONE || pair == NONE) {
                return false;
            }
            if (counts[greatest] <= 2 * (counts[pair] + counts[pair + 1])) {
                return false;
            }
            fuse(pair);
            int k = pair < greatest ? greatest - 1 : greatest;
            cut(k, halfOf(k));
            return true;
        }

        private int greatestLong() {
            int at = NONE;
            for (int k = 0; k < size; k++) {
                if (longOf(k) >= 2 && (at == NONE || counts[k] > counts[at])) {
                    at = k;
                }
            }
            return at;
        }

        /** The first SPAN of the neighbours with the least COUNTS together, without a SPAN. */
        private int leastPair(int without) {
            int at = NONE;
            int least = 0;
            for (int k = 0; k < size - 1; k++) {
                int sum = counts[k] + counts[k + 1];
                if (k != without && k + 1 != without && (at == NONE || sum < least)) {
                    at = k;
                    least = sum;
                }
            }
            return at;
        }

        /** The first VALUE of a SPAN with which the piece from the left has half of its LONG. */
        private int halfOf(int k) {
            int first = firstOf(k);
            int all = longOf(k);
            int value = first;
            while (value < ends[k] && 2 * plainBetween(first, value) < all) {
                value++;
            }
            return value;
        }

        /** TOGETHER; the other one is a copy, as it is SPLIT too. */
        void takeIn(Sketch other) {
            for (int v = 0; v < LAST_VALUE; v++) {
                boolean here = endsAt(v);
                boolean there = other.endsAt(v);
                if (there && !here) {
                    cut(spanOf(v), v);
                }
                if (here && !there) {
                    other.cut(other.spanOf(v), v);
                }
            }
            for (int k = 0; k < size && k < other.size; k++) {
                setPiece(k, counts[k] + other.counts[k], limited(doubts[k] + other.doubts[k]));
            }
            takeHeavy(other);
            for (int extra = size - MOST_SPANS; extra > 0; extra--) {
                fuse(leastPair(NONE));
            }
            drifts = 0;
        }

        private void takeHeavy(Sketch other) {
            for (int v = 0; v < VALUES; v++) {
                if (other.isHeavy[v] && isHeavy[v]) {
                    heavyCounts[v] += other.heavyCounts[v];
                } else if (other.isHeavy[v]) {
                    counts[spanOf(v)] += other.heavyCounts[v];
                }
            }
        }

        // ---- QUESTIONS

        private int askedOf(int k, int a, int b) {
            return plainBetween(Math.max(firstOf(k), a), Math.min(ends[k], b));
        }

        void guessInto(Fraction fraction, int a, int b) {
            fraction.set(heavyBetween(a, b), 1);
            for (int k = 0; k < size; k++) {
                int asked = askedOf(k, a, b);
                // Of a whole SPAN as many are asked for as its LONG: that is its COUNT.
                if (asked > 0) {
                    fraction.add((long) counts[k] * asked, longOf(k));
                }
            }
        }

        int lowOf(int a, int b) {
            int sum = heavyBetween(a, b);
            for (int k = 0; k < size; k++) {
                int asked = askedOf(k, a, b);
                if (asked > 0 && asked == longOf(k)) {
                    sum += Math.max(0, counts[k] - doubts[k]);
                }
            }
            return sum;
        }

        int highOf(int a, int b) {
            int sum = heavyBetween(a, b);
            for (int k = 0; k < size; k++) {
                if (askedOf(k, a, b) > 0) {
                    sum += Math.max(0, counts[k] + doubts[k]);
                }
            }
            return sum;
        }

        void joinInto(Fraction fraction, Sketch other) {
            fraction.set(0, 1);
            for (int v = 0; v < VALUES; v++) {
                fraction.add(shareTop(v) * other.shareTop(v), shareBottom(v) * other.shareBottom(v));
            }
        }

        private long shareTop(int value) {
            return isHeavy[value] ? heavyCounts[value] : counts[spanOf(value)];
        }

        private long shareBottom(int value) {
            return isHeavy[value] ? 1 : longOf(spanOf(value));
        }
    }

    /** Finds the best SPANS for TRUE counts. */
    private static final class Planner {
        private static final int APART = -1;
        private static final int STEPS = 32;

        final int[] ends = new int[MOST_SPANS];
        private final int[] levels = new int[VALUES];
        private final int[] sums = new int[(MOST_SPANS + 1) * (VALUES + 1)];
        private int least;
        private int greatest;

        void lookAt(int[] truth, boolean[] isHeavy) {
            for (int v = 0; v < VALUES; v++) {
                levels[v] = isHeavy[v] ? APART : truth[v];
            }
        }

        /** Sets the ends of so many SPANS and tells the greatest ERROR. */
        int plan(int many) {
            int limit = leastLimit(many);
            sumUp(many, limit);
            int from = 0;
            for (int k = many; k >= 1; k--) {
                int end = firstEnd(k, from, limit);
                ends[many - k] = end;
                from = end + 1;
            }
            return limit;
        }

        private void beginPiece() {
            least = FAR;
            greatest = APART;
        }

        /** The ERROR of the piece with one VALUE more. */
        private int errorWith(int value) {
            if (levels[value] != APART) {
                least = Math.min(least, levels[value]);
                greatest = Math.max(greatest, levels[value]);
            }
            return Math.max(0, greatest - least);
        }

        /** The least greatest ERROR: fewer pieces within a limit can always be made more. */
        private int leastLimit(int many) {
            int low = 0;
            int high = MOST_ROWS;
            for (int step = 0; step < STEPS && low < high; step++) {
                int middle = (low + high) / 2;
                if (fewestWithin(middle) <= many) {
                    high = middle;
                } else {
                    low = middle + 1;
                }
            }
            return high;
        }

        private int fewestWithin(int limit) {
            int many = 1;
            beginPiece();
            for (int v = 0; v < VALUES; v++) {
                if (errorWith(v) > limit) {
                    many++;
                    beginPiece();
                    errorWith(v);
                }
            }
            return many;
        }

        /** The least ERRORS together of k pieces from a VALUE to the last one, for all of these. */
        private void sumUp(int many, int limit) {
            Arrays.fill(sums, FAR);
            sums[at(0, VALUES)] = 0;
            for (int from = LAST_VALUE; from >= 0; from--) {
                beginPiece();
                for (int to = from; to < VALUES; to++) {
                    int error = errorWith(to);
                    if (error > limit) {
                        break;
                    }
                    offerPiece(many, from, to, error);
                }
            }
        }

        private void offerPiece(int many, int from, int to, int error) {
            for (int k = 1; k <= many; k++) {
                int sum = error + sums[at(k - 1, to + 1)];
                if (sum < sums[at(k, from)]) {
                    sums[at(k, from)] = sum;
                }
            }
        }

        private int firstEnd(int k, int from, int limit) {
            beginPiece();
            for (int to = from; to < VALUES; to++) {
                int error = errorWith(to);
                if (error > limit) {
                    break;
                }
                if (error + sums[at(k - 1, to + 1)] == sums[at(k, from)]) {
                    return to;
                }
            }
            return LAST_VALUE;
        }

        private static int at(int k, int from) {
            return k * (VALUES + 1) + from;
        }
    }

    /** A number by another one above 0, without a common divisor. */
    private static final class Fraction {
        private static final int STEPS = 200;

        long top = 0;
        long bottom = 1;

        void set(long newTop, long newBottom) {
            long divisor = commonDivisor(newTop, newBottom);
            top = newTop / divisor;
            bottom = newBottom / divisor;
        }

        /** Goes by the least common bottom, so that no number grows more than it must. */
        void add(long otherTop, long otherBottom) {
            long inner = commonDivisor(otherTop, otherBottom);
            long moreTop = otherTop / inner;
            long moreBottom = otherBottom / inner;
            long shared = commonDivisor(bottom, moreBottom);
            long scale = moreBottom / shared;
            set(top * scale + moreTop * (bottom / shared), bottom * scale);
        }

        int sign() {
            return top > 0 ? 1 : top < 0 ? -1 : 0;
        }

        /** At least 1, so that it can divide. */
        private static long commonDivisor(long a, long b) {
            long great = Math.abs(a);
            long small = Math.abs(b);
            for (int step = 0; step < STEPS && small != 0; step++) {
                long rest = great % small;
                great = small;
                small = rest;
            }
            return Math.max(1, great);
        }
    }
}
