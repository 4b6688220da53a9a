/** Counts the answers that are not the ones that are due, and ends the run with 1 if there was one. */
final class Check {
    private final String test;
    private int asked;
    private int wrong;
    private String part = "";

    Check(String test) {
        this.test = test;
    }

    /** Names what the next rows are about. */
    void part(String name) {
        part = name;
    }

    void is(long want, long got, String call) {
        asked++;
        if (got != want) {
            wrong++;
            System.out.println(test + ", " + part + ": " + call + " answered " + got + ", due is " + want);
        }
    }

    void isTrue(boolean so, String what) {
        is(1, so ? 1 : 0, what);
    }

    /** What the gauges tell of the latest TICK. */
    void gauges(OilPush x, int pressure, int over, int store, int takers) {
        is(pressure, x.gauge(0), "THE PRESSURE");
        is(over, x.gauge(1), "over THE LIMIT");
        is(store, x.gauge(2), "what THE STORE TOOK");
        is(takers, x.gauge(3), "how many TOOK");
    }

    void sums(OilPush x, long heat, long work, long given) {
        is(heat, x.sum(0), "HEAT");
        is(work, x.sum(1), "WORK");
        is(given, x.sum(2), "GIVEN");
    }

    void end() {
        System.out.println(test + ": " + asked + " rows, " + wrong + " wrong");
        if (wrong != 0 || asked == 0) {
            System.exit(1);
        }
    }

    /** A new object with a SHEET 3 of ints, which load() uses. */
    static OilPush plant(int q, int r) {
        OilPush x = new OilPush();
        x.pump(0, q);
        x.pump(1, r);
        x.sheet(3, 2, 20);
        return x;
    }

    static void load(OilPush x, int c, int... loads) {
        for (int i = 0; i < loads.length; i++) {
            x.put(3, i, loads[i]);
        }
        if (x.loads(c, 3, 2, 0, loads.length) != loads.length) {
            throw new IllegalStateException("the loads of a test are not taken");
        }
    }
}
