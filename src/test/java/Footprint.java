import java.util.ArrayList;
import java.util.List;

/**
 * All that can be asked of an object, in one list: two objects with the same footprint are in the same state. Asking
 * changes the object, so it is asked once, of an object that is made anew for it. Some 400 calls at most: with what
 * makes the object they stay under the 512 that the document promises.
 */
final class Footprint {
    private final OilPush x;
    private final List<Long> seen = new ArrayList<>();
    private final int parts;

    private Footprint(OilPush x) {
        this.x = x;
        parts = x.told(0);
    }

    /** Without fault(), which a refused call may change: it is asked apart, and first. */
    static List<Long> of(OilPush x) {
        Footprint f = new Footprint(x);
        f.counts();
        f.latestTick();
        f.cylinders();
        f.settings();
        f.sheets();
        f.leaks();
        f.ordersToCome();
        f.store();
        f.loads();
        return f.seen;
    }

    private void add(long v) {
        seen.add(v);
    }

    private void counts() {
        for (int what = 0; what < 6; what++) {
            add(x.told(what));
        }
        add(x.waits());
        add(x.trace());
    }

    private void latestTick() {
        for (int what = 0; what < 4; what++) {
            add(x.gauge(what));
        }
        for (int i = 0; i < parts; i++) {
            add(x.mover(i));
        }
        for (int what = 0; what < 5; what++) {
            add(x.sum(what));
        }
    }

    private void cylinders() {
        for (int c = 0; c < parts; c++) {
            for (int what = 0; what < 10; what++) {
                add(x.about(c, what));
            }
        }
    }

    private void settings() {
        for (int what = 0; what < 2; what++) {
            int was = x.pump(what, 1);
            add(was);
            x.pump(what, was);
        }
        for (int c = 0; c < parts; c++) {
            for (int what = 0; what < 3; what++) {
                int was = x.rule(c, what, 1);
                add(was);
                x.rule(c, what, was);
            }
        }
    }

    private void sheets() {
        for (int k = 0; k < 4; k++) {
            for (int lane = 0; lane < 3; lane++) {
                long v = x.cell(k, 0, lane);
                add(v);
                add(x.fault());
                for (int i = 1; v != OilPush.LOST; i++) {
                    v = x.cell(k, i, lane);
                    add(v);
                }
            }
        }
    }

    private void leaks() {
        add(x.leak(0));
        add(x.leak(1));
        int readings = x.forget();
        add(x.leak(0));
        for (int c = 0; readings > 0 && c < parts; c++) {
            x.reading(0, c, 0);
            add(x.leak(0));
            x.forget();
        }
    }

    /** Which ORDERS wait is seen by what they do while all CYLINDERS are full, and empty. */
    private void ordersToCome() {
        for (int round = 0; round < 3; round++) {
            for (int c = 0; c < parts; c++) {
                x.fill(c, round == 1 ? 0 : x.about(c, 1) * x.about(c, 2));
            }
            x.tick(1);
            add(x.waits());
            for (int c = 0; c < parts; c++) {
                add(x.about(c, 6));
            }
        }
    }

    private void store() {
        for (int c = 0; c < parts; c++) {
            x.valve(c, 0);
        }
        x.pump(0, 1000);
        x.pump(1, 1000);
        x.tick(6);
        add(x.sum(3));
        add(x.sum(4));
    }

    private void loads() {
        for (int c = 0; c < parts; c++) {
            int many = x.about(c, 7);
            int room = x.about(c, 1) * x.about(c, 2);
            for (int i = 0; i < many; i++) {
                x.fill(c, (i * room + many - 1) / many);
                add(x.about(c, 4));
            }
        }
    }
}
