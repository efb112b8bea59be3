import java.math.BigInteger;
import java.util.ArrayList;
import java.util.Collections;
import java.util.List;
import java.util.TreeMap;

/**
 * The document once more, written for plainness alone: rows in lists, one row at a time, fractions
 * of big integers, spans as lists of values. FuzzTest holds the class against it.
 */
final class Model {
    private static final class Piece {
        final List<Integer> values = new ArrayList<>();
        int count;
        int doubt;
    }

    private static final class Sketch {
        final TreeMap<Integer, Integer> heavy = new TreeMap<>();
        List<Piece> pieces = new ArrayList<>();
        int drifts;

        int length(Piece p) {
            int many = 0;
            for (int v : p.values) {
                if (!heavy.containsKey(v)) {
                    many++;
                }
            }
            return many;
        }

        int indexOf(int value) {
            for (int k = 0; k < pieces.size(); k++) {
                if (pieces.get(k).values.contains(value)) {
                    return k;
                }
            }
            throw new IllegalStateException("no piece has " + value);
        }

        int last(int k) {
            List<Integer> values = pieces.get(k).values;
            return values.get(values.size() - 1);
        }

        Sketch twin() {
            Sketch t = new Sketch();
            t.heavy.putAll(heavy);
            for (Piece p : pieces) {
                Piece q = new Piece();
                q.values.addAll(p.values);
                q.count = p.count;
                q.doubt = p.doubt;
                t.pieces.add(q);
            }
            t.drifts = drifts;
            return t;
        }

        long weight() {
            long sum = 0;
            for (Piece p : pieces) {
                sum += p.count + p.doubt;
            }
            for (int count : heavy.values()) {
                sum += count;
            }
            return sum;
        }

        void split(int value) {
            int k = indexOf(value);
            Piece all = pieces.get(k);
            Piece left = new Piece();
            Piece right = new Piece();
            for (int v : all.values) {
                (v <= value ? left : right).values.add(v);
            }
            if (length(left) == 0) {
                right.count = all.count;
                right.doubt = all.doubt;
            } else if (length(right) == 0) {
                left.count = all.count;
                left.doubt = all.doubt;
            } else {
                BigInteger[] parts = BigInteger.valueOf(all.count).multiply(BigInteger.valueOf(length(left)))
                    .divideAndRemainder(BigInteger.valueOf(length(all)));
                left.count = parts[0].intValue() - (parts[1].signum() < 0 ? 1 : 0);
                right.count = all.count - left.count;
                for (Piece p : List.of(left, right)) {
                    p.doubt = Math.max(p.count, all.count + all.doubt - p.count);
                    p.doubt = Math.min(1_000_000, Math.max(0, p.doubt));
                }
            }
            pieces.set(k, left);
            pieces.add(k + 1, right);
        }

        void melt(int k) {
            Piece one = pieces.get(k);
            Piece next = pieces.remove(k + 1);
            one.values.addAll(next.values);
            one.count += next.count;
            one.doubt = Math.min(1_000_000, one.doubt + next.doubt);
        }

        int leastPair(Piece without) {
            int best = -1;
            long least = Long.MAX_VALUE;
            for (int k = 0; k + 1 < pieces.size(); k++) {
                Piece p = pieces.get(k);
                Piece q = pieces.get(k + 1);
                if (p != without && q != without && (long) p.count + q.count < least) {
                    best = k;
                    least = (long) p.count + q.count;
                }
            }
            return best;
        }
    }

    private static final class Column {
        final List<Integer> rows = new ArrayList<>();
        Sketch sketch;
        int[] drawn;
        int held;
        BigInteger seed;
        int seen;

        int[] truth() {
            int[] counts = new int[40];
            for (int v : rows) {
                if (v >= 0) {
                    counts[v]++;
                }
            }
            return counts;
        }

        int count(int value) {
            int many = 0;
            for (int v : rows) {
                many += v == value ? 1 : 0;
            }
            return many;
        }
    }

    private final Column[] columns = {new Column(), new Column(), new Column()};
    private final long[][] trays = new long[4][];
    private final int[] sorts = new int[4];
    private BigInteger top = BigInteger.ZERO;
    private BigInteger bottom = BigInteger.ONE;
    private int status = 0;

    int status() {
        return status;
    }

    long top() {
        return top.longValueExact();
    }

    long bottom() {
        return bottom.longValueExact();
    }

    private int end(int code, int answer) {
        status = code;
        return code == 0 ? answer : -1;
    }

    private boolean end(int code) {
        status = code;
        return code == 0;
    }

    private static boolean in(long x, long from, long to) {
        return from <= x && x <= to;
    }

    private static boolean column(int c) {
        return in(c, 0, 2);
    }

    private static boolean value(int v) {
        return in(v, 0, 39);
    }

    // ---- TRAYS

    boolean tray(int tray, int sort, int many) {
        if (!in(tray, 0, 3) || !in(sort, 0, 3) || !in(many, 0, 100)) {
            return end(1);
        }
        trays[tray] = new long[many];
        sorts[tray] = sort;
        return end(0);
    }

    private int placeStatus(int tray, int place) {
        if (!in(tray, 0, 3)) {
            return 1;
        }
        if (trays[tray] == null) {
            return 2;
        }
        return in(place, 0, trays[tray].length - 1) ? 0 : 3;
    }

    boolean write(int tray, int place, long v) {
        int code = placeStatus(tray, place);
        if (code == 0) {
            int bits = 8 << sorts[tray];
            BigInteger rest = BigInteger.valueOf(v).mod(BigInteger.ONE.shiftLeft(bits));
            if (rest.testBit(bits - 1)) {
                rest = rest.subtract(BigInteger.ONE.shiftLeft(bits));
            }
            trays[tray][place] = rest.longValueExact();
        }
        return end(code);
    }

    long read(int tray, int place) {
        int code = placeStatus(tray, place);
        status = code;
        return code == 0 ? trays[tray][place] : -1;
    }

    boolean pour(int from, int place, int to, int at, int many) {
        if (!in(from, 0, 3) || !in(to, 0, 3) || place < 0 || at < 0 || many < 0) {
            return end(1);
        }
        if (trays[from] == null || trays[to] == null) {
            return end(2);
        }
        if (sorts[from] != sorts[to]) {
            return end(7);
        }
        if ((long) place + many > trays[from].length || (long) at + many > trays[to].length) {
            return end(3);
        }
        long[] asTheyWere = trays[from].clone();
        for (int i = 0; i < many; i++) {
            trays[to][at + i] = asTheyWere[place + i];
        }
        return end(0);
    }

    // ---- ROWS

    private void change(Column c, int value, int by) {
        if (by > 0) {
            c.rows.add(value);
        } else {
            c.rows.remove((Integer) value);
        }
        Sketch s = c.sketch;
        if (value < 0 || s == null) {
            return;
        }
        s.drifts++;
        if (s.heavy.containsKey(value)) {
            s.heavy.merge(value, by, Integer::sum);
        } else {
            s.pieces.get(s.indexOf(value)).count += by;
        }
    }

    private void draw(Column c, int value) {
        if (c.drawn == null) {
            return;
        }
        c.seen++;
        if (c.held < c.drawn.length) {
            c.drawn[c.held++] = value;
            return;
        }
        c.seed = c.seed.multiply(BigInteger.valueOf(1103515245)).add(BigInteger.valueOf(12345))
            .mod(BigInteger.valueOf(2).pow(31));
        int lot = c.seed.divide(BigInteger.valueOf(65536)).mod(BigInteger.valueOf(c.seen)).intValueExact();
        if (lot < c.drawn.length) {
            c.drawn[lot] = value;
        }
    }

    private void putOne(Column c, int value) {
        change(c, value, 1);
        draw(c, value);
    }

    boolean put(int column, int value, int many) {
        if (!column(column) || !in(value, -1, 39) || !in(many, 1, 1000)) {
            return end(1);
        }
        Column c = columns[column];
        if (c.rows.size() + many > 10_000) {
            return end(4);
        }
        for (int i = 0; i < many; i++) {
            putOne(c, value);
        }
        return end(0);
    }

    boolean strike(int column, int value, int many) {
        if (!column(column) || !in(value, -1, 39) || !in(many, 1, 1000)) {
            return end(1);
        }
        Column c = columns[column];
        if (c.count(value) < many) {
            return end(4);
        }
        for (int i = 0; i < many; i++) {
            change(c, value, -1);
        }
        return end(0);
    }

    int pack(int column, int tray) {
        if (!column(column) || !in(tray, 0, 3)) {
            return end(1, 0);
        }
        if (trays[tray] == null) {
            return end(2, 0);
        }
        for (long v : trays[tray]) {
            if (!in(v, -1, 39)) {
                return end(1, 0);
            }
        }
        Column c = columns[column];
        if (c.rows.size() + trays[tray].length > 10_000) {
            return end(4, 0);
        }
        for (long v : trays[tray]) {
            putOne(c, (int) v);
        }
        return end(0, trays[tray].length);
    }

    int truly(int column, int value) {
        if (!column(column) || !in(value, -1, 39)) {
            return end(1, 0);
        }
        return end(0, columns[column].count(value));
    }

    int rows(int column, int what) {
        if (!column(column) || !in(what, 0, 2)) {
            return end(1, 0);
        }
        Column c = columns[column];
        int[] all = {c.rows.size() - c.count(-1), c.rows.size(), 0};
        for (int count : c.truth()) {
            all[2] += count > 0 ? 1 : 0;
        }
        return end(0, all[what]);
    }

    // ---- SKETCHES

    /** A way to have the values from one on in pieces: greatest error, errors together, ends. */
    private record Way(int greatest, int sum, List<Integer> ends) {
        boolean beats(Way o) {
            if (greatest != o.greatest) {
                return greatest < o.greatest;
            }
            return sum != o.sum ? sum < o.sum : firstOf(ends, o.ends) < 0;
        }

        boolean coversFor(Way o) {
            return greatest <= o.greatest
                && (sum < o.sum || sum == o.sum && firstOf(ends, o.ends) <= 0);
        }

        static int firstOf(List<Integer> one, List<Integer> two) {
            for (int i = 0; i < one.size(); i++) {
                int by = Integer.compare(one.get(i), two.get(i));
                if (by != 0) {
                    return by;
                }
            }
            return 0;
        }
    }

    /** All ways that may still be the best with any left neighbours, by pieces and first value. */
    private static Way best(int b, int[] truth, Sketch s) {
        List<List<List<Way>>> ways = new ArrayList<>();
        for (int k = 0; k <= b; k++) {
            ways.add(new ArrayList<>());
            for (int from = 0; from <= 40; from++) {
                ways.get(k).add(new ArrayList<>());
            }
        }
        ways.get(0).get(40).add(new Way(0, 0, List.of()));
        for (int k = 1; k <= b; k++) {
            for (int from = 39; from >= 0; from--) {
                for (int to = from; to < 40; to++) {
                    int error = error(from, to, truth, s);
                    for (Way rest : ways.get(k - 1).get(to + 1)) {
                        List<Integer> ends = new ArrayList<>();
                        ends.add(to);
                        ends.addAll(rest.ends);
                        Way w = new Way(Math.max(error, rest.greatest), error + rest.sum, ends);
                        offer(ways.get(k).get(from), w);
                    }
                }
            }
        }
        Way best = null;
        for (Way w : ways.get(b).get(0)) {
            best = best == null || w.beats(best) ? w : best;
        }
        return best;
    }

    private static void offer(List<Way> ways, Way w) {
        for (Way o : ways) {
            if (o.coversFor(w)) {
                return;
            }
        }
        ways.removeIf(w::coversFor);
        ways.add(w);
    }

    private static int error(int from, int to, int[] truth, Sketch s) {
        List<Integer> counts = new ArrayList<>();
        for (int v = from; v <= to; v++) {
            if (!s.heavy.containsKey(v)) {
                counts.add(truth[v]);
            }
        }
        return counts.isEmpty() ? 0 : Collections.max(counts) - Collections.min(counts);
    }

    int make(int column, int b, int n, int d) {
        if (!column(column) || !in(b, 1, 12) || !in(d, 1, 1000) || !in(n, 0, d)) {
            return end(1, 0);
        }
        Column c = columns[column];
        int[] truth = c.truth();
        int all = c.rows.size() - c.count(-1);
        List<Integer> able = new ArrayList<>();
        for (int v = 0; v < 40; v++) {
            if (truth[v] > 0 && truth[v] * d >= all * n) {
                able.add(v);
            }
        }
        able.sort((x, y) -> truth[x] != truth[y] ? truth[y] - truth[x] : x - y);
        Sketch s = new Sketch();
        for (int v : able.subList(0, Math.min(8, able.size()))) {
            s.heavy.put(v, truth[v]);
        }
        Way way = best(b, truth, s);
        int from = 0;
        for (int end : way.ends) {
            Piece p = new Piece();
            for (int v = from; v <= end; v++) {
                p.values.add(v);
                p.count += s.heavy.containsKey(v) ? 0 : truth[v];
            }
            s.pieces.add(p);
            from = end + 1;
        }
        c.sketch = s;
        return end(0, way.greatest);
    }

    private int sketchStatus(boolean can, int... wanted) {
        if (!can) {
            return 1;
        }
        for (int column : wanted) {
            if (!column(column)) {
                return 1;
            }
        }
        for (int column : wanted) {
            if (columns[column].sketch == null) {
                return 5;
            }
        }
        return 0;
    }

    boolean away(int column) {
        int code = sketchStatus(true, column);
        if (code == 0) {
            columns[column].sketch = null;
        }
        return end(code);
    }

    int sketch(int column, int what) {
        int code = sketchStatus(in(what, 0, 3), column);
        if (code != 0) {
            return end(code, 0);
        }
        Sketch s = columns[column].sketch;
        int[] all = {s.pieces.size(), s.heavy.size(), 0, 0};
        for (Piece p : s.pieces) {
            all[2] += p.doubt;
            all[3] += p.count;
        }
        return end(0, all[what]);
    }

    int span(int column, int k, int what) {
        int code = sketchStatus(true, column);
        if (code != 0) {
            return end(code, 0);
        }
        Sketch s = columns[column].sketch;
        if (!in(k, 0, s.pieces.size() - 1) || !in(what, 0, 4)) {
            return end(1, 0);
        }
        Piece p = s.pieces.get(k);
        int[] all = {p.values.get(0), s.last(k), p.count, p.doubt, s.length(p)};
        return end(0, all[what]);
    }

    int heavy(int column, int value) {
        int code = sketchStatus(value(value), column);
        if (code == 0 && !columns[column].sketch.heavy.containsKey(value)) {
            code = 6;
        }
        return end(code, code == 0 ? columns[column].sketch.heavy.get(value) : 0);
    }

    int split(int column, int value) {
        int code = sketchStatus(value(value), column);
        if (code != 0) {
            return end(code, 0);
        }
        Sketch s = columns[column].sketch;
        int k = s.indexOf(value);
        if (s.last(k) == value || s.pieces.size() == 12) {
            return end(6, 0);
        }
        s.split(value);
        return end(0, k);
    }

    boolean melt(int column, int k) {
        int code = sketchStatus(true, column);
        if (code == 0 && !in(k, 0, columns[column].sketch.pieces.size() - 2)) {
            code = 6;
        }
        if (code == 0) {
            columns[column].sketch.melt(k);
        }
        return end(code);
    }

    int keep(int column) {
        int code = sketchStatus(true, column);
        if (code != 0) {
            return end(code, 0);
        }
        Sketch s = columns[column].sketch;
        Piece greatest = null;
        for (Piece p : s.pieces) {
            if (s.length(p) >= 2 && (greatest == null || p.count > greatest.count)) {
                greatest = p;
            }
        }
        int pair = s.leastPair(greatest);
        if (greatest == null || pair < 0
            || greatest.count <= 2 * (s.pieces.get(pair).count + s.pieces.get(pair + 1).count)) {
            return end(0, 0);
        }
        s.melt(pair);
        int left = 0;
        for (int v : greatest.values) {
            left += s.heavy.containsKey(v) ? 0 : 1;
            if (2 * left >= s.length(greatest)) {
                s.split(v);
                break;
            }
        }
        return end(0, 1);
    }

    int together(int column, int other) {
        int code = sketchStatus(column != other, column, other);
        if (code == 0 && columns[column].sketch.weight() + columns[other].sketch.weight() > 100_000) {
            code = 4;
        }
        if (code != 0) {
            return end(code, 0);
        }
        Sketch mine = columns[column].sketch;
        Sketch theirs = columns[other].sketch.twin();
        for (int v = 0; v < 39; v++) {
            boolean here = mine.last(mine.indexOf(v)) == v;
            boolean there = theirs.last(theirs.indexOf(v)) == v;
            if (here != there) {
                (here ? theirs : mine).split(v);
            }
        }
        for (int k = 0; k < mine.pieces.size(); k++) {
            Piece p = mine.pieces.get(k);
            p.count += theirs.pieces.get(k).count;
            p.doubt = Math.min(1_000_000, p.doubt + theirs.pieces.get(k).doubt);
        }
        for (int v : theirs.heavy.keySet()) {
            if (mine.heavy.containsKey(v)) {
                mine.heavy.merge(v, theirs.heavy.get(v), Integer::sum);
            } else {
                mine.pieces.get(mine.indexOf(v)).count += theirs.heavy.get(v);
            }
        }
        while (mine.pieces.size() > 12) {
            mine.melt(mine.leastPair(null));
        }
        mine.drifts = 0;
        return end(0, mine.pieces.size());
    }

    int drifts(int column) {
        int code = sketchStatus(true, column);
        return end(code, code == 0 ? columns[column].sketch.drifts : 0);
    }

    // ---- QUESTIONS

    private static boolean question(int a, int b) {
        return value(a) && value(b) && a <= b;
    }

    /** What a sketch has of one value, as top and bottom. */
    private static BigInteger[] share(Sketch s, int v) {
        if (s.heavy.containsKey(v)) {
            return new BigInteger[] {BigInteger.valueOf(s.heavy.get(v)), BigInteger.ONE};
        }
        Piece p = s.pieces.get(s.indexOf(v));
        return new BigInteger[] {BigInteger.valueOf(p.count), BigInteger.valueOf(s.length(p))};
    }

    private int tell(BigInteger newTop, BigInteger newBottom) {
        BigInteger divisor = newTop.gcd(newBottom);
        top = newTop.divide(divisor);
        bottom = newBottom.divide(divisor);
        return end(0, top.signum());
    }

    int guess(int column, int a, int b) {
        int code = sketchStatus(question(a, b), column);
        if (code != 0) {
            return end(code, 0);
        }
        BigInteger t = BigInteger.ZERO;
        BigInteger u = BigInteger.ONE;
        for (int v = a; v <= b; v++) {
            BigInteger[] x = share(columns[column].sketch, v);
            t = t.multiply(x[1]).add(x[0].multiply(u));
            u = u.multiply(x[1]);
        }
        return tell(t, u);
    }

    private static int low(Sketch s, int a, int b) {
        int sum = s.heavy.subMap(a, true, b, true).values().stream().mapToInt(x -> x).sum();
        for (Piece p : s.pieces) {
            boolean whole = s.length(p) > 0;
            for (int v : p.values) {
                whole &= s.heavy.containsKey(v) || in(v, a, b);
            }
            sum += whole ? Math.max(0, p.count - p.doubt) : 0;
        }
        return sum;
    }

    private static int high(Sketch s, int a, int b) {
        int sum = s.heavy.subMap(a, true, b, true).values().stream().mapToInt(x -> x).sum();
        for (Piece p : s.pieces) {
            boolean some = false;
            for (int v : p.values) {
                some |= !s.heavy.containsKey(v) && in(v, a, b);
            }
            sum += some ? Math.max(0, p.count + p.doubt) : 0;
        }
        return sum;
    }

    int bound(int column, int a, int b, boolean high) {
        int code = sketchStatus(question(a, b), column);
        if (code != 0) {
            return end(code, 0);
        }
        Sketch s = columns[column].sketch;
        return end(0, high ? high(s, a, b) : low(s, a, b));
    }

    int join(int column, int other) {
        int code = sketchStatus(true, column, other);
        if (code != 0) {
            return end(code, 0);
        }
        BigInteger t = BigInteger.ZERO;
        BigInteger u = BigInteger.ONE;
        for (int v = 0; v < 40; v++) {
            BigInteger[] x = share(columns[column].sketch, v);
            BigInteger[] y = share(columns[other].sketch, v);
            BigInteger below = x[1].multiply(y[1]);
            t = t.multiply(below).add(x[0].multiply(y[0]).multiply(u));
            u = u.multiply(below);
        }
        return tell(t, u);
    }

    int harm(int column, int a, int b, int other, int from, int to) {
        int code = sketchStatus(question(a, b) && question(from, to), column, other);
        if (code != 0) {
            return end(code, 0);
        }
        int high = high(columns[column].sketch, a, b);
        int low = low(columns[other].sketch, from, to);
        return tell(BigInteger.valueOf(high), BigInteger.valueOf(low == 0 ? 1 : low));
    }

    // ---- a SAMPLE

    boolean sample(int column, int k, int seed) {
        if (!column(column) || !in(k, 1, 16) || seed < 0) {
            return end(1);
        }
        Column c = columns[column];
        c.drawn = new int[k];
        c.held = 0;
        c.seen = 0;
        c.seed = BigInteger.valueOf(seed);
        return end(0);
    }

    int drawn(int column, int k) {
        if (!column(column) || !in(k, 0, 15)) {
            return end(1, 0);
        }
        Column c = columns[column];
        if (c.drawn == null || k >= c.held) {
            return end(6, 0);
        }
        return end(0, c.drawn[k] == -1 ? -2 : c.drawn[k]);
    }
}
