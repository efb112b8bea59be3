/** Counts and prints the answers that are not the ones that are due. */
final class Check {
    private static int wrong = 0;
    private static int asked = 0;

    private Check() {
    }

    static void due(String what, long got, long want) {
        asked++;
        if (got != want) {
            wrong++;
            System.out.println(what + " answered " + got + ", due is " + want);
        }
    }

    static void due(String what, boolean got, boolean want) {
        due(what, got ? 1 : 0, want ? 1 : 0);
    }

    /** A call that is refused: its answer is NONE, and the status tells why. */
    static void refused(String what, SpanSketch x, long got, int status) {
        due(what, got, -1);
        due(what + ", status", x.status(), status);
    }

    static void refused(String what, SpanSketch x, boolean got, int status) {
        due(what, got, false);
        due(what + ", status", x.status(), status);
    }

    /** A call that goes well. */
    static void well(String what, SpanSketch x, long got, long want) {
        due(what, got, want);
        due(what + ", status", x.status(), 0);
    }

    static void well(String what, SpanSketch x, boolean got) {
        due(what, got, true);
        due(what + ", status", x.status(), 0);
    }

    /** First VALUE, last, COUNT, DOUBT and LONG of a SPAN. */
    static void span(SpanSketch x, int column, int k, int... want) {
        for (int what = 0; what < 5; what++) {
            well("span(" + column + ", " + k + ", " + what + ")", x, x.span(column, k, what), want[what]);
        }
    }

    static void fraction(String what, SpanSketch x, long top, long bottom) {
        due(what + ", top", x.top(), top);
        due(what + ", bottom", x.bottom(), bottom);
    }

    static void end() {
        System.out.println(asked + " answers looked at, " + wrong + " not as due");
        if (wrong != 0) {
            System.exit(1);
        }
    }
}
