/** The boundaries of TRAYS ("Terms" 1, promises 5 to 8), on both of their sides. */
public final class TrayEdgesTest {
    private static final int MIN = Integer.MIN_VALUE;
    private static final int MAX = Integer.MAX_VALUE;

    public static void main(String[] args) {
        numbersOfTrays();
        missingAtFirst();
        sizes();
        emptyTray();
        sorts();
        madeAnew();
        cutToSort();
        cutOf64();
        places();
        pourBelowNone();
        pourPlaces();
        pourOfNone();
        pourOnItself();
        pourSorts();
        Check.end();
    }

    /** "TRAYS 0 to 3". */
    private static void numbersOfTrays() {
        SpanSketch x = new SpanSketch();
        for (int t : new int[] {0, 3}) {
            Check.well("tray " + t, x, x.tray(t, 0, 1));
            Check.well("write " + t, x, x.write(t, 0, 7));
            Check.well("read " + t, x, x.read(t, 0), 7);
            Check.well("pour " + t, x, x.pour(t, 0, t, 0, 1));
            Check.well("pack " + t, x, x.pack(0, t), 1);
        }
        for (int t : new int[] {-1, 4, MIN, MAX}) {
            Check.refused("tray " + t, x, x.tray(t, 0, 1), 1);
            Check.refused("write " + t, x, x.write(t, 0, 7), 1);
            Check.refused("read " + t, x, x.read(t, 0), 1);
            Check.refused("pour from " + t, x, x.pour(t, 0, 0, 0, 1), 1);
            Check.refused("pour to " + t, x, x.pour(0, 0, t, 0, 1), 1);
            Check.refused("pack " + t, x, x.pack(0, t), 1);
        }
    }

    /** "MISSING at first": each for itself. */
    private static void missingAtFirst() {
        SpanSketch x = new SpanSketch();
        for (int t = 0; t < 4; t++) {
            for (int later = t; later < 4; later++) {
                Check.refused("write " + later, x, x.write(later, 0, 1), 2);
                Check.refused("read " + later, x, x.read(later, 0), 2);
                Check.refused("pack " + later, x, x.pack(0, later), 2);
                Check.refused("pour from " + later, x, x.pour(later, 0, 0, 0, 0), 2);
                Check.refused("pour to " + later, x, x.pour(0, 0, later, 0, 0), 2);
            }
            Check.well("tray " + t, x, x.tray(t, 0, 1));
            Check.well("write " + t, x, x.write(t, 0, 1));
        }
    }

    /** "rows of 0 to 100 numbers". */
    private static void sizes() {
        SpanSketch x = new SpanSketch();
        for (int many : new int[] {0, 1, 99, 100}) {
            Check.well("tray of " + many, x, x.tray(0, 0, many));
            Check.well("all are 0s", x, x.pack(0, 0), many);
            Check.refused("behind the last", x, x.read(0, many), 3);
        }
        Check.due("0s", x.truly(0, 0), 200);
        for (int many : new int[] {-1, 101, MIN, MAX}) {
            Check.refused("tray of " + many, x, x.tray(1, 0, many), 1);
            Check.refused("is MISSING still", x, x.read(1, 0), 2);
        }
    }

    /** A row of 0 numbers is there, and has no place. */
    private static void emptyTray() {
        SpanSketch x = new SpanSketch();
        x.tray(2, 3, 0);
        for (int place : new int[] {-1, 0, 1}) {
            Check.refused("write", x, x.write(2, place, 1), 3);
            Check.refused("read", x, x.read(2, place), 3);
        }
        Check.well("pack", x, x.pack(2, 2), 0);
        Check.well("pour of none", x, x.pour(2, 0, 2, 0, 0));
        Check.refused("pour of one", x, x.pour(2, 0, 2, 0, 1), 3);
    }

    /** Sorts 0 to 3. */
    private static void sorts() {
        SpanSketch x = new SpanSketch();
        for (int sort : new int[] {-1, 4, MIN, MAX}) {
            Check.refused("sort " + sort, x, x.tray(0, sort, 1), 1);
            Check.refused("is MISSING still", x, x.read(0, 0), 2);
        }
        for (int sort : new int[] {0, 3}) {
            Check.well("sort " + sort, x, x.tray(0, sort, 1));
        }
    }

    /** "A TRAY is a row of so many 0s": whatever it was. */
    private static void madeAnew() {
        SpanSketch x = new SpanSketch();
        x.tray(1, 3, 100);
        for (int i = 0; i < 100; i++) {
            x.write(1, i, -1 - i);
        }
        Check.well("smaller", x, x.tray(1, 0, 2));
        Check.well("a 0", x, x.read(1, 1), 0);
        Check.refused("no place any more", x, x.read(1, 2), 3);
        x.write(1, 1, 300);
        Check.well("cut to its new sort", x, x.read(1, 1), 44);
        Check.well("greater", x, x.tray(1, 3, 100));
        for (int i = 0; i < 100; i++) {
            Check.well("a 0", x, x.read(1, i), 0);
        }
    }

    /** "cut to its sort": the greatest and the least number, and the first ones beyond. */
    private static void cutToSort() {
        SpanSketch x = new SpanSketch();
        for (int sort = 0; sort < 3; sort++) {
            long half = 1L << ((8 << sort) - 1);
            x.tray(sort, sort, 3);
            cut(x, sort, half - 1, half - 1);
            cut(x, sort, half, -half);
            cut(x, sort, -half, -half);
            cut(x, sort, -half - 1, half - 1);
            cut(x, sort, 2 * half - 1, -1);
            cut(x, sort, 2 * half, 0);
            cut(x, sort, 2 * half + 1, 1);
            cut(x, sort, -2 * half, 0);
            cut(x, sort, Long.MAX_VALUE, -1);
            cut(x, sort, Long.MIN_VALUE, 0);
        }
    }

    private static void cutOf64() {
        SpanSketch x = new SpanSketch();
        x.tray(3, 3, 3);
        for (long v : new long[] {Long.MAX_VALUE, Long.MIN_VALUE, 1L << 32, -(1L << 31) - 1, -1, 0}) {
            cut(x, 3, v, v);
        }
    }

    private static void cut(SpanSketch x, int tray, long v, long want) {
        Check.well("write " + v, x, x.write(tray, 1, v));
        Check.well("read of " + v, x, x.read(tray, 1), want);
        Check.well("its left one", x, x.read(tray, 0), 0);
        Check.well("its right one", x, x.read(tray, 2), 0);
    }

    /** 3, "a place that the TRAY has not". */
    private static void places() {
        SpanSketch x = new SpanSketch();
        for (int many : new int[] {1, 5, 100}) {
            x.tray(0, 2, many);
            for (int place : new int[] {0, many - 1}) {
                Check.well("write", x, x.write(0, place, place + 3));
                Check.well("read", x, x.read(0, place), place + 3);
            }
            for (int place : new int[] {-1, many, MIN, MAX}) {
                Check.refused("write", x, x.write(0, place, 1), 3);
                Check.refused("read", x, x.read(0, place), 3);
            }
        }
    }

    /** pour: "1: below 0, too". */
    private static void pourBelowNone() {
        SpanSketch x = new SpanSketch();
        x.tray(0, 0, 2);
        Check.well("all of them 0", x, x.pour(0, 0, 0, 0, 0));
        for (int below : new int[] {-1, MIN}) {
            Check.refused("place " + below, x, x.pour(0, below, 0, 0, 0), 1);
            Check.refused("at " + below, x, x.pour(0, 0, 0, below, 0), 1);
            Check.refused("many " + below, x, x.pour(0, 0, 0, 0, below), 1);
            Check.refused("place " + below + ", one number", x, x.pour(0, below, 0, 0, 1), 1);
            Check.refused("at " + below + ", one number", x, x.pour(0, 0, 0, below, 1), 1);
        }
    }

    /** From the first place to the last one, and one farther. */
    private static void pourPlaces() {
        SpanSketch x = new SpanSketch();
        x.tray(0, 1, 5);
        x.tray(1, 1, 3);
        Check.well("to the last of both", x, x.pour(0, 2, 1, 0, 3));
        Check.refused("one too far from", x, x.pour(0, 3, 1, 0, 3), 3);
        Check.refused("one too far to", x, x.pour(0, 2, 1, 1, 3), 3);
        Check.refused("one too many to", x, x.pour(0, 1, 1, 0, 4), 3);
        Check.refused("one too many from", x, x.pour(1, 0, 0, 0, 4), 3);
        Check.well("the last one", x, x.pour(0, 4, 1, 2, 1));
        Check.refused("behind the last from", x, x.pour(0, 5, 1, 2, 1), 3);
        Check.refused("behind the last to", x, x.pour(0, 4, 1, 3, 1), 3);
        for (int far : new int[] {6, MAX - 1, MAX}) {
            Check.refused("place " + far, x, x.pour(0, far, 1, 0, 1), 3);
            Check.refused("at " + far, x, x.pour(0, 0, 1, far, 1), 3);
            Check.refused("many " + far, x, x.pour(0, 0, 1, 0, far), 3);
            Check.refused("many " + far + " from the last", x, x.pour(0, 4, 1, 2, far), 3);
        }
    }

    /** 0 numbers may be poured up to the place just behind the last one. */
    private static void pourOfNone() {
        SpanSketch x = new SpanSketch();
        x.tray(0, 1, 5);
        x.tray(1, 1, 3);
        x.write(0, 4, 9);
        Check.well("behind the last of both", x, x.pour(0, 5, 1, 3, 0));
        Check.well("nothing came", x, x.read(1, 2), 0);
        Check.refused("farther from", x, x.pour(0, 6, 1, 3, 0), 3);
        Check.refused("farther to", x, x.pour(0, 5, 1, 4, 0), 3);
        Check.refused("far", x, x.pour(0, MAX, 1, 3, 0), 3);
    }

    /** "or its own", "as they were": by one place, either way, and to the same place. */
    private static void pourOnItself() {
        SpanSketch x = new SpanSketch();
        x.tray(0, 3, 100);
        for (int i = 0; i < 100; i++) {
            x.write(0, i, 1000 + i);
        }
        Check.well("on itself", x, x.pour(0, 0, 0, 0, 100));
        Check.well("to the right", x, x.pour(0, 0, 0, 1, 99));
        for (int i = 1; i < 100; i++) {
            Check.well("as it was", x, x.read(0, i), 999 + i);
        }
        Check.well("the first stays", x, x.read(0, 0), 1000);
        Check.well("to the left", x, x.pour(0, 1, 0, 0, 99));
        for (int i = 0; i < 99; i++) {
            Check.well("as it was", x, x.read(0, i), 1000 + i);
        }
        Check.well("the last stays", x, x.read(0, 99), 1098);
    }

    /** 7, "TRAYS are of unlike sorts": all pairs of them. */
    private static void pourSorts() {
        SpanSketch x = new SpanSketch();
        for (int one = 0; one < 4; one++) {
            for (int two = 0; two < 4; two++) {
                x.tray(0, one, 2);
                x.tray(1, two, 2);
                x.write(0, 1, 5);
                if (one == two) {
                    Check.well("like ones", x, x.pour(0, 1, 1, 0, 1));
                } else {
                    Check.refused("unlike ones", x, x.pour(0, 1, 1, 0, 1), 7);
                    Check.refused("unlike ones, none of them", x, x.pour(0, 0, 1, 0, 0), 7);
                }
                Check.well("what came", x, x.read(1, 0), one == two ? 5 : 0);
            }
        }
    }
}
