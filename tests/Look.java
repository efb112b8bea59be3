import java.util.ArrayList;
import java.util.List;

/**
 * All that can be seen of an object, but its STATUS, in parts: each part asks a new twin, as an
 * object answers 512 calls alone.
 */
final class Look {
    interface Maker {
        SpanSketch make();
    }

    private final SpanSketch x;
    private final List<Long> seen = new ArrayList<>();

    private Look(SpanSketch x) {
        this.x = x;
    }

    /** Two makers make objects that are alike if this is the same. */
    static List<List<Long>> at(Maker maker) {
        List<List<Long>> parts = new ArrayList<>();
        for (int t = 0; t < 4; t++) {
            Look look = new Look(maker.make());
            look.fraction();
            look.tray(t);
            parts.add(look.seen);
        }
        for (int c = 0; c < 3; c++) {
            Look look = new Look(maker.make());
            look.counts(c);
            look.spans(c);
            parts.add(look.seen);
            look = new Look(maker.make());
            look.answers(c);
            parts.add(look.seen);
            look = new Look(maker.make());
            look.hidden(c);
            look.spans(c);
            parts.add(look.seen);
        }
        return parts;
    }

    private void see(long answer) {
        seen.add(answer);
        seen.add((long) x.status());
    }

    private void see(boolean answer) {
        see(answer ? 1 : 0);
    }

    private void fraction() {
        seen.add(x.top());
        seen.add(x.bottom());
    }

    /** The sort shows in how a number is cut. */
    private void tray(int t) {
        for (int place = 0; place <= 100; place++) {
            see(x.read(t, place));
        }
        see(x.write(t, 0, 0x0102_0304_8506_8788L));
        see(x.read(t, 0));
    }

    private void counts(int c) {
        for (int what = 0; what < 4; what++) {
            see(x.rows(c, what));
            see(x.sketch(c, what));
        }
        see(x.truly(c, -1));
        for (int v = 0; v < 40; v++) {
            see(x.truly(c, v));
            see(x.heavy(c, v));
        }
        for (int k = 0; k < 16; k++) {
            see(x.drawn(c, k));
        }
    }

    private void spans(int c) {
        see(x.drifts(c));
        for (int k = 0; k < 12; k++) {
            for (int what = 0; what < 5; what++) {
                see(x.span(c, k, what));
            }
        }
    }

    private void answers(int c) {
        for (int v = 0; v < 40; v++) {
            see(x.guess(c, 0, v));
            fraction();
            see(x.bound(c, 0, v, true));
            see(x.bound(c, v, 39, false));
        }
        for (int o = 0; o < 3; o++) {
            see(x.join(c, o));
            fraction();
        }
    }

    /** The SEED of a SAMPLE, and how many ROWS it saw, show in the ROWS that come in next. */
    private void hidden(int c) {
        for (int v = 0; v < 40; v++) {
            see(x.strike(c, v, 1));
        }
        for (int v = 0; v < 40; v++) {
            see(x.put(c, v, 1));
            see(x.drawn(c, v % 16));
        }
    }
}
