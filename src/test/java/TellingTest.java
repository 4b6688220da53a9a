/** Promises 26 to 31. */
public final class TellingTest {
    private static OilPush three() {
        OilPush x = new OilPush();
        for (int kind = 0; kind < 3; kind++) {
            x.cylinder(kind, 10, 10);
            x.fill(kind, 11 * (kind + 1));
        }
        return x;
    }

    private static void telling(Check k) {
        k.part("promises 26, 27, 29");
        OilPush x = three();
        k.is(0, x.trace(), "trace()");
        int[] told = {11, 1000022, 66};
        int[][] bodies = {{1}, {2, 1}, {3, 1}};
        int trace = 0;
        for (int c = 0; c < 3; c++) {
            k.is(told[c], x.tell(c), "tell(" + c + ")");
            for (int body : bodies[c]) {
                trace = 31 * trace + body;
            }
            k.is(trace, x.trace(), "trace() behind tell(" + c + ")");
            k.is(c == 2 ? 88 : c, x.look(c), "look(" + c + ")");
            trace = 31 * trace + (c == 2 ? 5 : 4);
            k.is(trace, x.trace(), "trace() behind look(" + c + ")");
        }
        for (int c : new int[] {-1, 3}) {
            k.is(-1, x.tell(c), "tell(" + c + ")");
            k.is(-1, x.look(c), "look(" + c + ")");
            k.is(trace, x.trace(), "refusals leave nothing");
        }
        for (int i = 0; i < 20; i++) {
            x.tell(1);
            trace = 31 * (31 * trace + 2) + 1;
            k.is(trace, x.trace(), "it wraps");
        }
        x.fill(0, 0);
        k.is(0, x.tell(0), "OIL 0");
        x.cylinder(1, 1, 1);
        k.is(3, x.look(3), "its number, not its kind");
    }

    private static void as(Check k) {
        k.part("promises 28, 30");
        OilPush x = three();
        for (int c = 0; c < 3; c++) {
            for (int kind = 0; kind < 3; kind++) {
                String call = "as(" + c + ", " + kind + ")";
                k.is(kind <= c ? 1 : -12, x.as(c, kind), call);
                k.is(kind <= c ? 0 : 2, x.fault(), "fault() behind " + call);
                k.is(kind <= c ? 0 : 2, x.fault(), "fault() again");
            }
        }
        x.as(0, 1);
        k.is(-2, x.as(0, 3), "as(0, 3)");
        k.is(0, x.fault(), "refused");
        x.as(0, 1);
        k.is(-2, x.as(0, -1), "as(0, -1)");
        k.is(0, x.fault(), "refused");
        x.as(0, 1);
        k.is(-1, x.as(3, 3), "UNKNOWN first");
        k.is(0, x.fault(), "refused");
        k.is(-1, x.as(-1, 0), "as(-1, 0)");
        x.as(0, 2);
        k.is(0, x.trace(), "TRACE is not of as");
    }

    /** Calls that name no FAULT leave fault() as it was, answered or refused. */
    private static void faultStays(Check k) {
        k.part("promise 30");
        OilPush x = three();
        x.as(0, 2);
        x.pump(0, 5);
        x.pump(9, 5);
        x.cylinder(0, 1, 1);
        x.cylinder(9, 1, 1);
        x.rule(0, 0, 1);
        x.rule(9, 0, 1);
        x.valve(0, 1);
        x.valve(9, 1);
        x.fill(0, 1);
        x.fill(9, 1);
        x.burst(0, true);
        x.burst(9, true);
        x.store(1, 1, 1);
        x.store(1, 1, 0);
        x.about(0, 0);
        x.about(9, 0);
        x.tick(1);
        x.tick(-1);
        x.gauge(0);
        x.gauge(9);
        x.mover(0);
        x.sum(0);
        x.sum(9);
        x.order(0, 0, 0, 0);
        x.order(9, 0, 0, 0);
        x.waits();
        x.start();
        x.reading(0, 0, 0);
        x.reading(0, 9, 0);
        x.leak(0);
        x.leak(9);
        x.forget();
        x.lose(0);
        x.lose(9);
        x.tell(0);
        x.tell(9);
        x.look(0);
        x.look(9);
        x.trace();
        x.told(0);
        x.told(9);
        k.is(2, x.fault(), "fault() is of the latest call that names one");
        x.sheet(0, 2, 3);
        k.is(0, x.fault(), "sheet names one");
        k.is(-13, x.put(0, 3, 0), "put");
        k.is(3, x.fault(), "put names one");
        k.is(1, x.loads(0, 0, 2, 0, 1), "loads");
        k.is(0, x.fault(), "loads names one");
        k.is(-11, x.loads(0, 1, 2, 0, 1), "loads");
        k.is(-2, x.loads(0, 0, 2, 0, 0), "loads");
        k.is(0, x.fault(), "refused behind all FAULTS");
    }

    private static void told(Check k) {
        k.part("promise 31");
        OilPush x = three();
        x.order(0, 0, 0, 0);
        x.order(0, 1, 0, 0);
        x.reading(0, 0, 0);
        x.reading(0, 0, 0);
        x.reading(0, 0, 0);
        x.tick(7);
        int[] due = {3, 2, 3, 7, 0, 0};
        for (int what = 0; what < 6; what++) {
            k.is(due[what], x.told(what), "told(" + what + ")");
        }
        x.fill(0, 100);
        x.fill(1, 0);
        x.fill(2, 100);
        k.is(2, x.told(4), "full");
        k.is(1, x.told(5), "empty");
        x.fill(0, 0);
        x.fill(2, 99);
        k.is(0, x.told(4), "full");
        k.is(2, x.told(5), "empty");
        x.start();
        k.is(0, x.told(3), "since START");
        k.is(-2, x.told(6), "told(6)");
        k.is(-2, x.told(-1), "told(-1)");
    }

    public static void main(String[] args) {
        Check k = new Check("TellingTest");
        telling(k);
        as(k);
        faultStays(k);
        told(k);
        k.end();
    }
}
