/** Promise by promise: ordinary inputs, the edges that the document names, and wrong inputs. */
public final class PromiseTest {
    private static final int MIN = Integer.MIN_VALUE;
    private static final int MAX = Integer.MAX_VALUE;
    private static final int[] NO_COLUMN = {-1, 3, MIN, MAX};
    private static final int[] NO_TRAY = {-1, 4, MIN, MAX};
    private static final int[] NO_VALUE = {-1, 40, MIN, MAX};
    private static final int[] NO_ROW = {-2, 40, MIN, MAX};

    public static void main(String[] args) {
        newObject();
        statusOfLatest();
        topAndBottom();
        tray();
        writeAndRead();
        pour();
        pourOrder();
        put();
        strike();
        pack();
        truly();
        rows();
        makeHeavy();
        makeSpans();
        makeWrong();
        away();
        sketch();
        span();
        heavy();
        split();
        splitOfLongNone();
        splitBelowNone();
        melt();
        keep();
        together();
        togetherHeavy();
        togetherMelts();
        togetherLimit();
        drifts();
        guess();
        bound();
        longNoneInQuestions();
        join();
        harm();
        sample();
        drawn();
        Check.end();
    }

    // ---- promise 1
    private static void newObject() {
        SpanSketch x = new SpanSketch();
        Check.due("status()", x.status(), 0);
        Check.fraction("new", x, 0, 1);
        for (int c = 0; c < 3; c++) {
            Check.well("rows", x, x.rows(c, 1), 0);
            Check.refused("sketch", x, x.sketch(c, 0), 5);
            Check.refused("drawn", x, x.drawn(c, 0), 6);
        }
        for (int t = 0; t < 4; t++) {
            Check.refused("read", x, x.read(t, 0), 2);
        }
        Check.due("NONE", SpanSketch.NONE, -1);
    }

    // ---- promise 2
    private static void statusOfLatest() {
        SpanSketch x = new SpanSketch();
        Check.refused("drifts", x, x.drifts(0), 5);
        x.top();
        x.bottom();
        x.status();
        Check.due("top() and bottom() have no status", x.status(), 5);
        Check.well("rows", x, x.rows(0, 0), 0);
    }

    // ---- promises 3 and 4
    private static void topAndBottom() {
        SpanSketch x = Made.oneSpan(3, 3);
        Check.well("guess", x, x.guess(0, 0, 3), 1);
        Check.fraction("6 by 40, 4 times", x, 3, 5);
        Check.refused("guess", x, x.guess(0, 4, 3), 1);
        Check.refused("guess", x, x.guess(1, 3, 4), 5);
        Check.well("bound", x, x.bound(0, 0, 39, true), 6);
        Check.fraction("told latest stays", x, 3, 5);
        x.strike(0, 0, 3);
        x.strike(0, 1, 3);
        Check.well("guess", x, x.guess(0, 0, 3), 0);
        Check.fraction("0 is 0 by 1", x, 0, 1);
    }

    // ---- promise 5
    private static void tray() {
        SpanSketch x = new SpanSketch();
        for (int t : NO_TRAY) {
            Check.refused("tray", x, x.tray(t, 0, 1), 1);
        }
        for (int wrong : new int[] {-1, 4, MIN, MAX}) {
            Check.refused("tray sort", x, x.tray(0, wrong, 1), 1);
        }
        for (int wrong : new int[] {-1, 101, MIN, MAX}) {
            Check.refused("tray many", x, x.tray(0, 0, wrong), 1);
        }
        Check.refused("still MISSING", x, x.read(0, 0), 2);
        Check.well("tray of none", x, x.tray(0, 0, 0));
        Check.refused("no place", x, x.read(0, 0), 3);
        Check.well("tray of 100", x, x.tray(0, 3, 100));
        Check.well("read", x, x.read(0, 99), 0);
        x.write(0, 99, 7);
        Check.refused("tray", x, x.tray(0, 4, 5), 1);
        Check.well("a refused one changes nothing", x, x.read(0, 99), 7);
        Check.well("tray anew", x, x.tray(0, 3, 100));
        Check.well("0s anew", x, x.read(0, 99), 0);
    }

    // ---- promises 6 and 7
    private static void writeAndRead() {
        SpanSketch x = new SpanSketch();
        long[] numbers = {0, 1, -1, 127, 128, 255, 256, -129, 32767, 32768, 65535, -32769, 0x7fffffffL,
            0x80000000L, 0xffffffffL, Long.MIN_VALUE, Long.MAX_VALUE};
        for (int sort = 0; sort < 4; sort++) {
            x.tray(sort, sort, 2);
            for (long v : numbers) {
                long cut = sort == 0 ? (byte) v : sort == 1 ? (short) v : sort == 2 ? (int) v : v;
                Check.well("write", x, x.write(sort, 1, v));
                Check.well("read " + v + " of sort " + sort, x, x.read(sort, 1), cut);
                Check.well("its neighbour", x, x.read(sort, 0), 0);
            }
        }
        for (int t : NO_TRAY) {
            Check.refused("write", x, x.write(t, 0, 1), 1);
            Check.refused("read", x, x.read(t, 0), 1);
        }
        for (int place : new int[] {-1, 2, MIN, MAX}) {
            Check.refused("write", x, x.write(0, place, 1), 3);
            Check.refused("read", x, x.read(0, place), 3);
        }
        SpanSketch y = new SpanSketch();
        Check.refused("write", y, y.write(3, -1, 1), 2);
        Check.refused("read", y, y.read(3, 100), 2);
    }

    // ---- promise 8
    private static void pour() {
        SpanSketch x = new SpanSketch();
        x.tray(0, 1, 5);
        for (int i = 0; i < 5; i++) {
            x.write(0, i, i + 1);
        }
        Check.well("pour to the right", x, x.pour(0, 0, 0, 1, 4));
        numbers(x, 0, 1, 1, 2, 3, 4);
        Check.well("pour to the left", x, x.pour(0, 1, 0, 0, 4));
        numbers(x, 0, 1, 2, 3, 4, 4);
        x.tray(1, 1, 3);
        Check.well("pour", x, x.pour(0, 2, 1, 1, 2));
        numbers(x, 1, 0, 3, 4);
        Check.well("pour none at the ends", x, x.pour(0, 5, 1, 3, 0));
        numbers(x, 1, 0, 3, 4);
        numbers(x, 0, 1, 2, 3, 4, 4);
    }

    private static void numbers(SpanSketch x, int tray, long... want) {
        for (int i = 0; i < want.length; i++) {
            Check.well("read(" + tray + ", " + i + ")", x, x.read(tray, i), want[i]);
        }
    }

    private static void pourOrder() {
        SpanSketch x = new SpanSketch();
        x.tray(0, 0, 3);
        x.tray(1, 1, 3);
        x.tray(2, 0, 4);
        for (int t : NO_TRAY) {
            Check.refused("pour", x, x.pour(t, 0, 0, 0, 1), 1);
            Check.refused("pour", x, x.pour(0, 0, t, 0, 1), 1);
        }
        Check.refused("1 before 2", x, x.pour(0, -1, 3, 0, 1), 1);
        Check.refused("1 before 2", x, x.pour(3, 0, 0, MIN, 1), 1);
        Check.refused("1 before 2", x, x.pour(3, 0, 0, 0, -1), 1);
        Check.refused("2 before 3", x, x.pour(3, 9, 0, 9, 9), 2);
        Check.refused("2 before 3", x, x.pour(0, 9, 3, 9, 9), 2);
        Check.refused("7 before 3", x, x.pour(0, 9, 1, 9, 9), 7);
        Check.refused("3", x, x.pour(0, 0, 2, 0, 4), 3);
        Check.refused("3", x, x.pour(2, 0, 0, 0, 4), 3);
        Check.refused("3", x, x.pour(2, MAX, 0, 0, MAX), 3);
        Check.refused("3", x, x.pour(0, 0, 2, MAX, MAX), 3);
        Check.refused("3", x, x.pour(0, 4, 2, 0, 0), 3);
        Check.well("pour", x, x.pour(0, 1, 2, 2, 2));
    }

    // ---- promise 9
    private static void put() {
        SpanSketch x = new SpanSketch();
        for (int c : NO_COLUMN) {
            Check.refused("put", x, x.put(c, 0, 1), 1);
        }
        for (int v : NO_ROW) {
            Check.refused("put", x, x.put(0, v, 1), 1);
        }
        for (int many : new int[] {0, -1, 1001, MIN, MAX}) {
            Check.refused("put", x, x.put(0, 0, many), 1);
        }
        for (int i = 0; i < 9; i++) {
            Check.well("put", x, x.put(0, i % 2 == 0 ? 5 : -1, 1000));
        }
        Check.well("put", x, x.put(0, 39, 999));
        Check.refused("one too many", x, x.put(0, -1, 2), 4);
        Check.refused("one too many", x, x.put(0, 7, 2), 4);
        Check.refused("1 before 4", x, x.put(0, 40, 2), 1);
        Check.due("nothing was put", x.rows(0, 1), 9999);
        Check.well("the 10,000th", x, x.put(0, 7, 1));
        Check.refused("one too many", x, x.put(0, 7, 1), 4);
        Check.due("truly 7", x.truly(0, 7), 1);
        Check.due("truly NULL", x.truly(0, -1), 4000);
        Check.well("another column", x, x.put(1, 7, 1));
        SpanSketch y = new SpanSketch();
        y.put(0, 2, 9);
        y.put(0, 3, 1);
        y.make(0, 2, 1, 2);
        y.put(0, 2, 2);
        y.put(0, 3, 3);
        y.put(0, -1, 5);
        Check.due("heavy", y.heavy(0, 2), 11);
        Check.due("COUNTS", y.sketch(0, 3), 4);
    }

    // ---- promise 10
    private static void strike() {
        SpanSketch x = Made.oneSpan(3, 2);
        x.put(0, -1, 4);
        for (int c : NO_COLUMN) {
            Check.refused("strike", x, x.strike(c, 0, 1), 1);
        }
        for (int v : NO_ROW) {
            Check.refused("strike", x, x.strike(0, v, 1), 1);
        }
        for (int many : new int[] {0, -1, 1001, MIN, MAX}) {
            Check.refused("strike", x, x.strike(0, 0, many), 1);
        }
        Check.refused("fewer", x, x.strike(0, 0, 4), 4);
        Check.refused("fewer", x, x.strike(0, -1, 5), 4);
        Check.refused("none", x, x.strike(0, 39, 1), 4);
        Check.due("nothing struck", x.rows(0, 1), 9);
        Check.well("strike", x, x.strike(0, 0, 3));
        Check.well("strike NULL", x, x.strike(0, -1, 3));
        Check.due("truly", x.truly(0, 0), 0);
        Check.due("truly NULL", x.truly(0, -1), 1);
        Check.due("COUNTS", x.sketch(0, 3), 2);
        Check.due("rows", x.rows(0, 0), 2);
    }

    // ---- promise 11
    private static void pack() {
        SpanSketch x = new SpanSketch();
        for (int c : NO_COLUMN) {
            Check.refused("pack", x, x.pack(c, 0), 1);
        }
        for (int t : NO_TRAY) {
            Check.refused("pack", x, x.pack(0, t), 1);
        }
        Check.refused("MISSING", x, x.pack(0, 0), 2);
        x.tray(0, 3, 4);
        x.write(0, 1, 39);
        x.write(0, 2, -1);
        x.sample(0, 4, 1);
        Check.well("pack", x, x.pack(0, 0), 4);
        Check.due("two 0s", x.truly(0, 0), 2);
        Check.due("a 39", x.truly(0, 39), 1);
        Check.due("a NULL row", x.truly(0, -1), 1);
        Check.due("drawn", x.drawn(0, 0), 0);
        Check.due("drawn", x.drawn(0, 1), 39);
        Check.due("drawn", x.drawn(0, 2), -2);
        Check.due("drawn", x.drawn(0, 3), 0);
        for (long wrong : new long[] {40, -2, 1L << 32, Long.MIN_VALUE, Long.MAX_VALUE}) {
            x.write(0, 3, wrong);
            Check.refused("no VALUE", x, x.pack(0, 0), 1);
        }
        x.write(0, 3, 0);
        x.write(0, 0, -2);
        Check.refused("no VALUE in the first place", x, x.pack(0, 0), 1);
        Check.due("nothing was put", x.rows(0, 1), 4);
        x.tray(1, 0, 0);
        Check.well("pack of none", x, x.pack(0, 1), 0);
        packFull();
    }

    private static void packFull() {
        SpanSketch x = new SpanSketch();
        Made.rows(x, 2, 3, 9998);
        x.tray(0, 2, 3);
        Check.refused("one too many", x, x.pack(2, 0), 4);
        Check.due("nothing was put", x.rows(2, 1), 9998);
        x.write(0, 2, 40);
        Check.refused("1 before 4", x, x.pack(2, 0), 1);
        x.tray(0, 2, 2);
        Check.well("to the last place", x, x.pack(2, 0), 2);
        Check.due("full", x.rows(2, 1), 10000);
    }

    // ---- promise 12
    private static void truly() {
        SpanSketch x = Made.oneSpan(3, 1);
        for (int c : NO_COLUMN) {
            Check.refused("truly", x, x.truly(c, 0), 1);
        }
        for (int v : NO_ROW) {
            Check.refused("truly", x, x.truly(0, v), 1);
        }
        x.put(0, -1, 2);
        x.split(0, 0);
        Check.well("truly", x, x.truly(0, 0), 3);
        Check.well("truly", x, x.truly(0, 1), 1);
        Check.well("truly", x, x.truly(0, 39), 0);
        Check.well("truly NULL", x, x.truly(0, -1), 2);
        Check.well("truly elsewhere", x, x.truly(1, 0), 0);
    }

    // ---- promise 13
    private static void rows() {
        SpanSketch x = new SpanSketch();
        x.put(1, 0, 3);
        x.put(1, 39, 4);
        x.put(1, 20, 1);
        x.put(1, -1, 5);
        x.strike(1, 20, 1);
        x.put(1, 21, 1);
        Check.well("with VALUES", x, x.rows(1, 0), 8);
        Check.well("all", x, x.rows(1, 1), 13);
        Check.well("VALUES", x, x.rows(1, 2), 3);
        Check.well("elsewhere", x, x.rows(0, 1), 0);
        for (int what : new int[] {-1, 3, MIN, MAX}) {
            Check.refused("rows", x, x.rows(1, what), 1);
        }
        for (int c : NO_COLUMN) {
            Check.refused("rows", x, x.rows(c, 0), 1);
        }
    }

    // ---- promise 14
    private static void makeHeavy() {
        SpanSketch x = new SpanSketch();
        for (int v = 0; v < 10; v++) {
            x.put(0, v, v == 9 ? 6 : 5);
        }
        x.put(0, -1, 900);
        Check.well("make", x, x.make(0, 1, 0, 1), 5);
        Check.due("8 at most", x.sketch(0, 1), 8);
        Check.due("the greatest", x.heavy(0, 9), 6);
        Check.due("the lesser of like ones", x.heavy(0, 6), 5);
        Check.refused("the 8th of like ones", x, x.heavy(0, 7), 6);
        Check.span(x, 0, 0, 0, 39, 10, 0, 32);
        Check.well("51 times 6 is not less", x, x.make(0, 1, 6, 51), 5);
        Check.due("one", x.sketch(0, 1), 1);
        Check.well("1000 times 6 is less", x, x.make(0, 1, 118, 1000), 6);
        Check.due("none", x.sketch(0, 1), 0);
        x.put(1, 4, 7);
        Check.well("all ROWS are of one", x, x.make(1, 2, 1000, 1000), 0);
        Check.due("heavy", x.heavy(1, 4), 7);
        Check.span(x, 1, 0, 0, 0, 0, 0, 1);
        Check.span(x, 1, 1, 1, 39, 0, 0, 38);
        Check.well("without ROWS", x, x.make(2, 12, 0, 1000), 0);
        Check.due("none", x.sketch(2, 1), 0);
        Check.span(x, 2, 10, 10, 10, 0, 0, 1);
        Check.span(x, 2, 11, 11, 39, 0, 0, 29);
    }

    /** Levels 0, 3, 6 and 9 of ten VALUES each: least ERROR, then least ERRORS, then the first. */
    private static void makeSpans() {
        SpanSketch x = new SpanSketch();
        for (int v = 10; v < 40; v++) {
            x.put(0, v, v / 10 * 3);
        }
        Check.well("make", x, x.make(0, 4, 1, 1), 0);
        Check.span(x, 0, 1, 10, 19, 30, 0, 10);
        Check.span(x, 0, 3, 30, 39, 90, 0, 10);
        Check.well("make", x, x.make(0, 3, 1, 1), 3);
        Check.span(x, 0, 0, 0, 9, 0, 0, 10);
        Check.span(x, 0, 1, 10, 19, 30, 0, 10);
        Check.span(x, 0, 2, 20, 39, 150, 0, 20);
        Check.well("make", x, x.make(0, 1, 1, 1), 9);
        Check.well("make", x, x.make(0, 5, 1, 1), 0);
        Check.span(x, 0, 0, 0, 0, 0, 0, 1);
        Check.span(x, 0, 1, 1, 9, 0, 0, 9);
        x.split(0, 25);
        x.put(0, 0, 1);
        x.strike(0, 0, 1);
        Check.well("make anew", x, x.make(0, 4, 1, 1), 0);
        Check.due("SPANS", x.sketch(0, 0), 4);
        Check.due("DOUBTS", x.sketch(0, 2), 0);
        Check.due("drifts", x.drifts(0), 0);
    }

    private static void makeWrong() {
        SpanSketch x = Made.oneSpan(2, 1);
        for (int c : NO_COLUMN) {
            Check.refused("make", x, x.make(c, 1, 1, 1), 1);
        }
        for (int b : new int[] {0, -1, 13, MIN, MAX}) {
            Check.refused("make b", x, x.make(0, b, 1, 1), 1);
        }
        for (int d : new int[] {0, -1, 1001, MIN, MAX}) {
            Check.refused("make d", x, x.make(0, 1, 0, d), 1);
        }
        for (int n : new int[] {-1, 6, MIN, MAX}) {
            Check.refused("make n", x, x.make(0, 1, n, 5), 1);
        }
        Check.due("HEAVY as before", x.sketch(0, 1), 0);
        Check.due("COUNTS as before", x.sketch(0, 3), 3);
        Check.well("n up to d", x, x.make(0, 1, 5, 5), 2);
        Check.well("n from 0", x, x.make(0, 1, 0, 5), 0);
    }

    // ---- promise 15
    private static void away() {
        SpanSketch x = Made.oneSpan(2, 1);
        for (int c : NO_COLUMN) {
            Check.refused("away", x, x.away(c), 1);
        }
        Check.refused("away", x, x.away(1), 5);
        Check.well("away", x, x.away(0));
        Check.refused("away", x, x.away(0), 5);
        Check.refused("sketch", x, x.sketch(0, 0), 5);
        Check.due("ROWS stay", x.rows(0, 0), 3);
        x.put(0, 5, 1);
        Check.well("make", x, x.make(0, 1, 1, 1), 2);
        Check.due("drifts", x.drifts(0), 0);
    }

    // ---- promise 16
    private static void sketch() {
        SpanSketch x = Made.oneSpan(6, 4);
        for (int c : NO_COLUMN) {
            Check.refused("sketch", x, x.sketch(c, 0), 1);
        }
        for (int what : new int[] {-1, 4, MIN, MAX}) {
            Check.refused("sketch", x, x.sketch(0, what), 1);
            Check.refused("1 before 5", x, x.sketch(1, what), 1);
        }
        Check.refused("sketch", x, x.sketch(1, 3), 5);
        x.make(0, 3, 1, 2);
        Check.well("SPANS", x, x.sketch(0, 0), 3);
        Check.well("HEAVY", x, x.sketch(0, 1), 1);
        Check.well("DOUBTS", x, x.sketch(0, 2), 0);
        Check.well("COUNTS of ROWS that are not HEAVY", x, x.sketch(0, 3), 4);
        x.melt(0, 1);
        x.split(0, 20);
        Check.well("DOUBTS", x, x.sketch(0, 2), 4);
    }

    // ---- promise 17
    private static void span() {
        SpanSketch x = Made.oneSpan(6, 4);
        for (int c : NO_COLUMN) {
            Check.refused("span", x, x.span(c, 0, 0), 1);
        }
        Check.refused("5 before 1", x, x.span(1, 0, 9), 5);
        Check.refused("5 before 1", x, x.span(1, -1, 0), 5);
        for (int k : new int[] {-1, 1, MIN, MAX}) {
            Check.refused("span k", x, x.span(0, k, 0), 1);
        }
        for (int what : new int[] {-1, 5, MIN, MAX}) {
            Check.refused("span what", x, x.span(0, 0, what), 1);
        }
        Check.span(x, 0, 0, 0, 39, 10, 0, 40);
        x.make(0, 2, 1, 2);
        Check.span(x, 0, 0, 0, 1, 4, 0, 1);
        Check.span(x, 0, 1, 2, 39, 0, 0, 38);
    }

    // ---- promise 18
    private static void heavy() {
        SpanSketch x = Made.oneSpan(6, 4);
        for (int c : NO_COLUMN) {
            Check.refused("heavy", x, x.heavy(c, 0), 1);
        }
        for (int v : NO_VALUE) {
            Check.refused("heavy", x, x.heavy(0, v), 1);
            Check.refused("1 before 5", x, x.heavy(1, v), 1);
        }
        Check.refused("heavy", x, x.heavy(1, 0), 5);
        Check.refused("heavy", x, x.heavy(0, 0), 6);
        x.make(0, 2, 1, 2);
        Check.well("heavy", x, x.heavy(0, 0), 6);
        Check.refused("heavy", x, x.heavy(0, 1), 6);
        x.strike(0, 0, 6);
        Check.well("HEAVY without ROWS", x, x.heavy(0, 0), 0);
        x.make(0, 2, 0, 1);
        Check.refused("not HEAVY any more", x, x.heavy(0, 0), 6);
        Check.well("HEAVY now", x, x.heavy(0, 1), 4);
    }

    // ---- promise 19
    private static void split() {
        SpanSketch x = Made.oneSpan(6, 5);
        for (int c : NO_COLUMN) {
            Check.refused("split", x, x.split(c, 0), 1);
        }
        for (int v : NO_VALUE) {
            Check.refused("split", x, x.split(0, v), 1);
        }
        Check.refused("split", x, x.split(1, 0), 5);
        Check.refused("behind the last", x, x.split(0, 39), 6);
        Check.well("split", x, x.split(0, 29), 0);
        Check.span(x, 0, 0, 0, 29, 8, 8, 30);
        Check.span(x, 0, 1, 30, 39, 3, 8, 10);
        Check.refused("behind the last", x, x.split(0, 29), 6);
        Check.well("split of the second", x, x.split(0, 30), 1);
        Check.span(x, 0, 1, 30, 30, 0, 11, 1);
        Check.span(x, 0, 2, 31, 39, 3, 8, 9);
        for (int v = 0; v < 9; v++) {
            Check.well("split", x, x.split(0, v), v);
        }
        Check.due("SPANS", x.sketch(0, 0), 12);
        Check.refused("there are 12", x, x.split(0, 20), 6);
        Check.due("COUNTS", x.sketch(0, 3), 11);
    }

    private static void splitOfLongNone() {
        SpanSketch x = new SpanSketch();
        x.put(0, 0, 9);
        x.put(0, 39, 9);
        x.put(0, 20, 2);
        x.make(0, 1, 1, 3);
        x.split(0, 20);
        x.melt(0, 0);
        Check.span(x, 0, 0, 0, 39, 2, 2, 38);
        Check.well("left has LONG 0", x, x.split(0, 0), 0);
        Check.span(x, 0, 0, 0, 0, 0, 0, 0);
        Check.span(x, 0, 1, 1, 39, 2, 2, 38);
        Check.well("right has LONG 0", x, x.split(0, 38), 1);
        Check.span(x, 0, 1, 1, 38, 2, 2, 38);
        Check.span(x, 0, 2, 39, 39, 0, 0, 0);
    }

    private static void splitBelowNone() {
        SpanSketch x = Made.oneSpan(2, 2);
        x.split(0, 1);
        Check.span(x, 0, 0, 0, 1, 0, 4, 2);
        x.strike(0, 0, 2);
        x.strike(0, 1, 1);
        Check.span(x, 0, 0, 0, 1, -3, 4, 2);
        Check.well("rounded down", x, x.split(0, 0), 0);
        Check.span(x, 0, 0, 0, 0, -2, 3, 1);
        Check.span(x, 0, 1, 1, 1, -1, 2, 1);
    }

    // ---- promise 20
    private static void melt() {
        SpanSketch x = Made.oneSpan(5, 5);
        for (int c : NO_COLUMN) {
            Check.refused("melt", x, x.melt(c, 0), 1);
        }
        Check.refused("melt", x, x.melt(1, -1), 5);
        Check.refused("there are no two", x, x.melt(0, 0), 6);
        x.split(0, 9);
        x.split(0, 19);
        for (int k : new int[] {-1, 2, 3, MIN, MAX}) {
            Check.refused("there are no two", x, x.melt(0, k), 6);
        }
        Check.span(x, 0, 0, 0, 9, 2, 8, 10);
        Check.span(x, 0, 1, 10, 19, 2, 14, 10);
        Check.span(x, 0, 2, 20, 39, 6, 10, 20);
        Check.well("melt", x, x.melt(0, 1));
        Check.span(x, 0, 0, 0, 9, 2, 8, 10);
        Check.span(x, 0, 1, 10, 39, 8, 24, 30);
        Check.well("melt", x, x.melt(0, 0));
        Check.span(x, 0, 0, 0, 39, 10, 32, 40);
        greatestDoubt();
    }

    private static void greatestDoubt() {
        SpanSketch x = new SpanSketch();
        Made.rows(x, 0, 0, 5000);
        Made.rows(x, 0, 1, 5000);
        x.make(0, 1, 1, 1);
        long doubt = 0;
        for (int i = 0; i < 9; i++) {
            x.split(0, 19);
            long half = Math.min(1_000_000, doubt + 5000);
            Check.due("DOUBT of a SPLIT", x.span(0, 1, 3), half);
            x.melt(0, 0);
            doubt = Math.min(1_000_000, 2 * half);
            Check.due("DOUBT of a MELT", x.span(0, 0, 3), doubt);
        }
        Check.due("the greatest", doubt, 1_000_000);
        x.split(0, 0);
        x.split(0, 1);
        Check.due("all DOUBTS", x.sketch(0, 2), 3_000_000);
    }

    // ---- promise 21
    private static void keep() {
        SpanSketch x = new SpanSketch();
        for (int c : NO_COLUMN) {
            Check.refused("keep", x, x.keep(c), 1);
        }
        Check.refused("keep", x, x.keep(0), 5);
        x.put(0, 0, 100);
        x.put(0, 1, 100);
        x.put(0, 20, 2);
        x.put(0, 30, 1);
        x.make(0, 4, 1, 1);
        Check.well("keep", x, x.keep(0), 1);
        Check.span(x, 0, 0, 0, 0, 100, 100, 1);
        Check.span(x, 0, 1, 1, 1, 100, 100, 1);
        Check.span(x, 0, 2, 2, 20, 2, 0, 19);
        Check.span(x, 0, 3, 21, 39, 1, 0, 19);
        Check.well("GREATEST is of LONG 2 and more", x, x.keep(0), 0);
        SpanSketch y = new SpanSketch();
        y.put(0, 0, 2);
        y.put(0, 1, 2);
        y.put(0, 39, 2);
        y.make(0, 3, 1, 1);
        Check.well("not above twice", y, y.keep(0), 0);
        y.put(0, 0, 1);
        Check.well("above twice", y, y.keep(0), 1);
        Check.span(y, 0, 0, 0, 0, 2, 3, 1);
        Check.span(y, 0, 1, 1, 1, 3, 3, 1);
        Check.span(y, 0, 2, 2, 39, 2, 0, 38);
        Check.well("no PAIR without GREATEST", Made.oneSpan(5, 5), Made.oneSpan(5, 5).keep(0), 0);
        keepToTheRight();
        keepFirstGreatest();
    }

    private static void keepFirstGreatest() {
        SpanSketch x = new SpanSketch();
        for (int v : new int[] {0, 1, 20, 21}) {
            x.put(0, v, 4);
        }
        x.make(0, 4, 1, 1);
        x.split(0, 10);
        Check.well("keep", x, x.keep(0), 1);
        Check.span(x, 0, 0, 0, 0, 4, 4, 1);
        Check.span(x, 0, 2, 2, 19, 0, 0, 18);
        Check.span(x, 0, 3, 20, 21, 8, 0, 2);
    }

    /** PAIR ahead of GREATEST, of which the HEAVY VALUES don't count for its half. */
    private static void keepToTheRight() {
        SpanSketch x = new SpanSketch();
        x.put(0, 10, 90);
        x.put(0, 12, 30);
        x.put(0, 13, 30);
        x.make(0, 1, 1, 2);
        Check.due("HEAVY", x.sketch(0, 1), 1);
        x.split(0, 3);
        x.split(0, 5);
        x.split(0, 7);
        x.split(0, 13);
        Check.span(x, 0, 3, 8, 13, 7, 101, 5);
        x.put(0, 12, 300);
        Check.due("SPANS", x.sketch(0, 0), 5);
        Check.well("keep", x, x.keep(0), 1);
        Check.due("SPANS", x.sketch(0, 0), 5);
        Check.span(x, 0, 0, 0, 3, 6, 54, 4);
        Check.span(x, 0, 1, 4, 7, 6, 210, 4);
        Check.span(x, 0, 2, 8, 11, 184, 224, 3);
        Check.span(x, 0, 3, 12, 13, 123, 285, 2);
        Check.span(x, 0, 4, 14, 39, 41, 67, 26);
    }

    // ---- promise 22
    private static void together() {
        SpanSketch x = new SpanSketch();
        x.put(0, 0, 6);
        x.put(0, 39, 4);
        x.make(0, 1, 1, 1);
        x.put(1, 0, 5);
        x.put(1, 20, 5);
        x.make(1, 2, 1, 1);
        for (int c : NO_COLUMN) {
            Check.refused("together", x, x.together(c, 0), 1);
            Check.refused("together", x, x.together(0, c), 1);
        }
        for (int c = 0; c < 3; c++) {
            Check.refused("like ones", x, x.together(c, c), 1);
        }
        Check.refused("either", x, x.together(0, 2), 5);
        Check.refused("either", x, x.together(2, 0), 5);
        Check.well("together", x, x.together(0, 1), 2);
        Check.span(x, 0, 0, 0, 0, 5, 10, 1);
        Check.span(x, 0, 1, 1, 39, 15, 10, 39);
        Check.due("no ROWS change", x.rows(0, 0), 10);
        Check.span(x, 1, 0, 0, 0, 5, 0, 1);
        Check.span(x, 1, 1, 1, 39, 5, 0, 39);
        Check.due("the other one stays", x.sketch(1, 0), 2);
        x.make(0, 1, 1, 1);
        Check.well("the other one is SPLIT", x, x.together(1, 0), 2);
        Check.span(x, 1, 0, 0, 0, 5, 10, 1);
        Check.span(x, 1, 1, 1, 39, 15, 10, 39);
        Check.span(x, 0, 0, 0, 39, 10, 0, 40);
    }

    private static void togetherHeavy() {
        SpanSketch x = new SpanSketch();
        x.put(0, 3, 50);
        x.put(0, 4, 50);
        x.put(0, 9, 1);
        x.make(0, 1, 1, 3);
        x.put(1, 4, 70);
        x.put(1, 5, 60);
        x.put(1, 9, 39);
        x.make(1, 1, 1, 3);
        Check.due("HEAVY", x.sketch(1, 1), 2);
        Check.well("together", x, x.together(0, 1), 1);
        Check.due("HEAVY of the COLUMN alone", x.sketch(0, 1), 2);
        Check.well("in it alone", x, x.heavy(0, 3), 50);
        Check.well("in both", x, x.heavy(0, 4), 120);
        Check.refused("in the other alone", x, x.heavy(0, 5), 6);
        Check.span(x, 0, 0, 0, 39, 1 + 39 + 60, 0, 38);
        Check.well("heavy of the other stays", x, x.heavy(1, 5), 60);
    }

    private static void togetherMelts() {
        SpanSketch x = new SpanSketch();
        x.make(0, 1, 1, 1);
        x.make(1, 1, 1, 1);
        for (int i = 0; i < 11; i++) {
            Check.well("split", x, x.split(0, 2 * i + 1), i);
            Check.well("split", x, x.split(1, 2 * i), i);
        }
        x.put(0, 39, 8);
        x.put(1, 15, 1);
        Check.well("together", x, x.together(0, 1), 12);
        Check.span(x, 0, 0, 0, 11, 0, 0, 12);
        for (int k = 1; k < 11; k++) {
            Check.span(x, 0, k, k + 11, k + 11, k == 5 ? 1 : 0, k == 4 || k == 5 ? 1 : 0, 1);
        }
        Check.span(x, 0, 11, 22, 39, 8, 0, 18);
    }

    private static void togetherLimit() {
        SpanSketch x = new SpanSketch();
        for (int c = 0; c < 2; c++) {
            Made.rows(x, c, 0, 5000);
            Made.rows(x, c, 1, 5000);
            x.make(c, 1, 1, 1);
        }
        for (int i = 0; i < 3; i++) {
            x.split(0, 19);
            x.melt(0, 0);
        }
        x.split(1, 20);
        x.melt(1, 0);
        Check.due("COUNTS and DOUBTS", x.sketch(0, 2) + x.sketch(0, 3), 80_000);
        Check.due("COUNTS and DOUBTS", x.sketch(1, 2) + x.sketch(1, 3), 20_500);
        x.strike(1, 0, 499);
        Check.refused("100,001", x, x.together(0, 1), 4);
        Check.refused("100,001", x, x.together(1, 0), 4);
        Check.refused("5 before 4", x, x.together(0, 2), 5);
        Check.due("nothing changed", x.sketch(0, 3), 10_000);
        x.strike(1, 0, 1);
        Check.well("100,000", x, x.together(0, 1), 1);
        Check.due("all", x.sketch(0, 2) + x.sketch(0, 3), 100_000);
        heavyLimit();
    }

    /** HEAVY counts alone; VALUE 0 is HEAVY in the other one, too. */
    private static void heavyLimit() {
        SpanSketch x = new SpanSketch();
        Made.rows(x, 0, 0, 10_000);
        Made.rows(x, 1, 0, 10_000);
        x.make(0, 1, 1, 1);
        x.make(1, 1, 1, 1);
        int[] sums = {20_000, 30_000, 50_000, 80_000};
        for (int i = 0; i < sums.length; i++) {
            Check.well("together", x, x.together(i % 2, 1 - i % 2), 1);
            Check.due("heavy", x.heavy(i % 2, 0), sums[i]);
        }
        Check.refused("130,000", x, x.together(0, 1), 4);
        x.make(1, 1, 0, 1);
        x.put(2, 0, 2);
        x.put(2, 1, 3);
        x.make(2, 1, 1, 1);
        Check.well("HEAVY in the other one alone", x, x.together(2, 1), 1);
        Check.span(x, 2, 0, 0, 39, 10_005, 0, 40);
    }

    // ---- promise 23
    private static void drifts() {
        SpanSketch x = Made.oneSpan(5, 5);
        for (int c : NO_COLUMN) {
            Check.refused("drifts", x, x.drifts(c), 1);
        }
        Check.refused("drifts", x, x.drifts(1), 5);
        Check.well("drifts", x, x.drifts(0), 0);
        x.put(0, 3, 4);
        x.strike(0, 0, 2);
        x.put(0, -1, 7);
        x.strike(0, -1, 7);
        x.put(1, 3, 3);
        Check.well("ROWS with VALUES", x, x.drifts(0), 6);
        x.split(0, 5);
        x.keep(0);
        Check.well("SPLIT and KEEPING are none", x, x.drifts(0), 6);
        x.make(1, 1, 0, 1);
        x.put(1, 3, 2);
        Check.well("of HEAVY ones too", x, x.drifts(1), 2);
        x.together(0, 1);
        Check.well("since TOGETHER", x, x.drifts(0), 0);
        Check.well("of the other one", x, x.drifts(1), 2);
        x.put(0, 3, 1);
        Check.well("drifts", x, x.drifts(0), 1);
        x.make(0, 1, 1, 1);
        Check.well("since made", x, x.drifts(0), 0);
    }

    // ---- promise 24
    private static void guess() {
        SpanSketch x = new SpanSketch();
        wrongQuestions(x);
        x.put(0, 3, 50);
        x.put(0, 4, 6);
        x.put(0, 20, 5);
        x.make(0, 1, 1, 2);
        Check.due("HEAVY", x.sketch(0, 1), 1);
        Check.well("guess", x, x.guess(0, 3, 3), 1);
        Check.fraction("HEAVY alone", x, 50, 1);
        Check.well("guess", x, x.guess(0, 2, 4), 1);
        Check.fraction("50 and 11 times 2 by 39", x, 50 * 39 + 22, 39);
        Check.well("guess", x, x.guess(0, 0, 39), 1);
        Check.fraction("whole", x, 61, 1);
        x.make(0, 3, 1, 2);
        x.strike(0, 3, 50);
        Check.well("guess", x, x.guess(0, 3, 3), 0);
        Check.fraction("none", x, 0, 1);
        SpanSketch y = Made.oneSpan(3, 1);
        y.split(0, 0);
        y.strike(0, 0, 3);
        Check.well("guess", y, y.guess(0, 0, 0), -1);
        Check.fraction("below 0", y, -3, 1);
        Check.well("guess", y, y.guess(0, 0, 1), -1);
        Check.fraction("-3 and 4 by 39", y, -113, 39);
        Check.well("guess", y, y.guess(0, 0, 39), 1);
        Check.fraction("whole", y, 1, 1);
    }

    private static void wrongQuestions(SpanSketch x) {
        for (int c : NO_COLUMN) {
            Check.refused("guess", x, x.guess(c, 0, 1), 1);
            Check.refused("bound", x, x.bound(c, 0, 1, true), 1);
            Check.refused("harm", x, x.harm(c, 0, 1, 0, 0, 1), 1);
            Check.refused("harm", x, x.harm(0, 0, 1, c, 0, 1), 1);
            Check.refused("join", x, x.join(c, 0), 1);
            Check.refused("join", x, x.join(0, c), 1);
        }
        for (int v : NO_VALUE) {
            Check.refused("guess", x, x.guess(0, v, 39), 1);
            Check.refused("guess", x, x.guess(0, 0, v), 1);
            Check.refused("bound", x, x.bound(0, v, 39, false), 1);
            Check.refused("bound", x, x.bound(0, 0, v, false), 1);
            Check.refused("harm", x, x.harm(0, v, 39, 0, 0, 1), 1);
            Check.refused("harm", x, x.harm(0, 0, v, 0, 0, 1), 1);
            Check.refused("harm", x, x.harm(0, 0, 1, 0, v, 39), 1);
            Check.refused("harm", x, x.harm(0, 0, 1, 0, 0, v), 1);
        }
        Check.refused("a above b", x, x.guess(0, 1, 0), 1);
        Check.refused("a above b", x, x.bound(0, 1, 0, true), 1);
        Check.refused("a above b", x, x.harm(0, 1, 0, 0, 0, 1), 1);
        Check.refused("a above b", x, x.harm(0, 0, 1, 0, 1, 0), 1);
        Check.refused("no SKETCH", x, x.guess(0, 0, 0), 5);
        Check.refused("no SKETCH", x, x.bound(0, 0, 0, true), 5);
        Check.refused("no SKETCH", x, x.join(0, 0), 5);
        Check.refused("no SKETCH", x, x.harm(0, 0, 0, 0, 0, 0), 5);
    }

    // ---- promise 25
    private static void bound() {
        SpanSketch x = new SpanSketch();
        x.put(0, 3, 50);
        for (int v = 10; v < 20; v++) {
            x.put(0, v, 2);
        }
        x.put(0, 30, 9);
        x.make(0, 3, 1, 2);
        Check.span(x, 0, 0, 0, 29, 20, 0, 29);
        Check.span(x, 0, 1, 30, 30, 9, 0, 1);
        Check.span(x, 0, 2, 31, 39, 0, 0, 9);
        Check.well("LOW of a part", x, x.bound(0, 0, 15, false), 50);
        Check.well("HIGH of a part", x, x.bound(0, 0, 15, true), 70);
        Check.well("LOW of whole ones", x, x.bound(0, 0, 30, false), 79);
        Check.well("HIGH of a part and a whole one", x, x.bound(0, 4, 30, true), 29);
        Check.well("LOW of a part and a whole one", x, x.bound(0, 4, 30, false), 9);
        x.split(0, 28);
        Check.span(x, 0, 0, 0, 28, 19, 19, 28);
        Check.span(x, 0, 1, 29, 29, 1, 19, 1);
        Check.well("LOW: each SPAN 0 at least", x, x.bound(0, 0, 30, false), 59);
        Check.well("HIGH with DOUBTS", x, x.bound(0, 0, 30, true), 50 + 38 + 20 + 9);
        x.strike(0, 10, 2);
        x.put(0, 29, 20);
        Check.well("LOW: COUNT less DOUBT", x, x.bound(0, 29, 29, false), 2);
        Check.well("HIGH", x, x.bound(0, 29, 29, true), 40);
        Check.well("none asked for", x, x.bound(0, 39, 39, false), 0);
        Check.fraction("bounds are no FRACTIONS", x, 0, 1);
    }

    private static void longNoneInQuestions() {
        SpanSketch x = new SpanSketch();
        x.put(0, 0, 5);
        x.make(0, 2, 1, 1);
        x.put(1, 0, 30);
        x.put(1, 1, 30);
        x.make(1, 1, 1, 1);
        Check.well("together", x, x.together(0, 1), 2);
        Check.span(x, 0, 0, 0, 0, 1, 59, 0);
        Check.span(x, 0, 1, 1, 39, 59, 59, 39);
        Check.well("guess", x, x.guess(0, 0, 0), 1);
        Check.fraction("SPANS of LONG 0 are none", x, 5, 1);
        Check.well("LOW", x, x.bound(0, 0, 0, false), 5);
        Check.well("HIGH", x, x.bound(0, 0, 0, true), 5);
        Check.well("HIGH", x, x.bound(0, 0, 1, true), 5 + 118);
        Check.well("join", x, x.join(0, 1), 1);
        Check.fraction("5 times 60 by 40, and 59 times 60 by 40", x, 96, 1);
    }

    // ---- promise 26
    private static void join() {
        SpanSketch x = Made.oneSpan(6, 4);
        x.put(1, 0, 5);
        x.make(1, 1, 1, 2);
        Check.refused("either", x, x.join(0, 2), 5);
        Check.refused("either", x, x.join(2, 0), 5);
        Check.well("join", x, x.join(0, 1), 1);
        Check.fraction("5 times 10 by 40", x, 5, 4);
        Check.well("join", x, x.join(1, 0), 1);
        Check.fraction("the same", x, 5, 4);
        Check.well("like ones", x, x.join(0, 0), 1);
        Check.fraction("40 times 1 by 16", x, 5, 2);
        x.split(0, 2);
        Check.span(x, 0, 0, 0, 2, 0, 10, 3);
        Check.well("join", x, x.join(0, 1), 0);
        Check.fraction("none", x, 0, 1);
        x.strike(0, 0, 1);
        Check.well("join", x, x.join(0, 1), -1);
        Check.fraction("5 times -1 by 3", x, -5, 3);
        Check.well("join", x, x.join(0, 0), 1);
        Check.fraction("3 times 1 by 9, and 37 times 100 by 37 times 37", x, 337, 111);
    }

    // ---- promise 27
    private static void harm() {
        SpanSketch x = new SpanSketch();
        x.put(0, 3, 50);
        x.put(0, 4, 6);
        x.put(0, 20, 4);
        x.make(0, 1, 1, 2);
        x.put(1, 0, 4);
        x.make(1, 1, 1, 2);
        Check.refused("either", x, x.harm(0, 0, 1, 2, 0, 1), 5);
        Check.refused("either", x, x.harm(2, 0, 1, 0, 0, 1), 5);
        Check.well("harm", x, x.harm(0, 0, 9, 1, 0, 9), 1);
        Check.fraction("60 by 4", x, 15, 1);
        Check.well("harm", x, x.harm(1, 0, 9, 0, 0, 9), 1);
        Check.fraction("4 by 50", x, 2, 25);
        Check.well("the same COLUMN", x, x.harm(0, 3, 3, 0, 5, 9), 1);
        Check.fraction("50 by 0, so by 1", x, 50, 1);
        Check.well("harm", x, x.harm(1, 5, 9, 0, 3, 3), 0);
        Check.fraction("0 by 50", x, 0, 1);
    }

    // ---- promise 28
    private static void sample() {
        SpanSketch x = new SpanSketch();
        for (int c : NO_COLUMN) {
            Check.refused("sample", x, x.sample(c, 1, 0), 1);
        }
        for (int k : new int[] {0, -1, 17, MIN, MAX}) {
            Check.refused("sample", x, x.sample(0, k, 0), 1);
        }
        for (int seed : new int[] {-1, MIN}) {
            Check.refused("sample", x, x.sample(0, 1, seed), 1);
        }
        Check.refused("no SAMPLE", x, x.drawn(0, 0), 6);
        x.put(0, 9, 3);
        Check.well("sample", x, x.sample(0, 16, MAX));
        Check.refused("ROWS from its beginning on", x, x.drawn(0, 0), 6);
        x.put(0, 7, 16);
        Check.due("the first 16", x.drawn(0, 15), 7);
        Check.well("sample anew", x, x.sample(0, 1, 0));
        Check.refused("nothing is there", x, x.drawn(0, 0), 6);
        x.put(0, 5, 1);
        Check.due("drawn", x.drawn(0, 0), 5);
        Check.refused("sample", x, x.sample(0, 0, 0), 1);
        Check.due("a refused one changes nothing", x.drawn(0, 0), 5);
    }

    // ---- promise 29
    private static void drawn() {
        SpanSketch x = new SpanSketch();
        for (int c : NO_COLUMN) {
            Check.refused("drawn", x, x.drawn(c, 0), 1);
        }
        for (int k : new int[] {-1, 16, MIN, MAX}) {
            Check.refused("drawn", x, x.drawn(0, k), 1);
        }
        x.sample(0, 4, 1);
        // The seeds by 65,536 are 16838, 5758, 10113, 17515, 31051, 5627; their rests by t, which
        // goes from 5 to 10, are the LOTS 3, 4, 5, 3, 1, 7.
        for (int v = 0; v < 10; v++) {
            x.put(0, v, 1);
            int[] third = {-1, -1, -1, 3, 4, 4, 4, 7, 7, 7};
            int[] first = {-1, 1, 1, 1, 1, 1, 1, 1, 8, 8};
            Check.due("place 3 after " + v, x.drawn(0, 3), third[v]);
            Check.due("place 1 after " + v, x.drawn(0, 1), first[v]);
            Check.due("place 0 after " + v, x.drawn(0, 0), 0);
        }
        x.strike(0, 7, 1);
        Check.well("ROWS struck stay", x, x.drawn(0, 3), 7);
        Check.refused("beyond its ROWS", x, x.drawn(0, 4), 6);
        x.put(1, -1, 3);
        x.sample(1, 2, 5);
        x.put(1, -1, 1);
        Check.well("a NULL row", x, x.drawn(1, 0), -2);
        Check.refused("nothing there", x, x.drawn(1, 1), 6);
    }
}
