/** Promises 11 to 14, and what a TICK does. */
public final class TicksTest {
    private static void counting(Check k) {
        k.part("promise 11");
        OilPush x = new OilPush();
        k.is(0, x.tick(0), "tick(0)");
        k.is(-3, x.gauge(3), "no TICK yet");
        k.is(-2, x.tick(-1), "tick(-1)");
        k.is(-2, x.tick(201), "tick(201)");
        k.is(3, x.tick(3), "tick(3)");
        k.is(203, x.tick(200), "tick(200)");
        x.start();
        k.is(0, x.tick(0), "since START");
        k.is(5, x.tick(5), "since START");
        k.is(0, x.gauge(1), "gauge(1)");
        OilPush y = new OilPush();
        for (int i = 1; i < 500; i++) {
            y.tick(200);
        }
        k.is(99999, y.tick(199), "tick(199)");
        k.is(-3, y.tick(2), "there would be 100001");
        k.is(-2, y.tick(201), "OUTSIDE ahead of STATE");
        k.is(99999, y.told(3), "as it was");
        k.is(100000, y.tick(1), "just 100000");
        k.is(-3, y.tick(1), "one more");
        k.is(100000, y.tick(0), "none more");
        y.start();
        k.is(1, y.tick(1), "counted from 0 on");
    }

    private static void refusals(Check k) {
        k.part("promises 12, 13, 14, refusals");
        OilPush x = Check.plant(5, 10);
        k.is(-2, x.gauge(4), "OUTSIDE ahead of STATE");
        k.is(-2, x.gauge(-1), "gauge(-1)");
        for (int what = 0; what < 4; what++) {
            k.is(-3, x.gauge(what), "no TICK");
        }
        k.is(-1, x.mover(0), "no TICK");
        x.cylinder(0, 5, 5);
        x.valve(0, 1);
        x.tick(1);
        k.gauges(x, 0, 0, 0, 1);
        k.is(-2, x.gauge(4), "gauge(4)");
        k.is(0, x.mover(0), "mover(0)");
        k.is(-1, x.mover(1), "mover(1)");
        k.is(-1, x.mover(-1), "mover(-1)");
        k.is(-1, x.mover(6), "mover(6)");
        k.is(Long.MIN_VALUE, x.sum(5), "sum(5)");
        k.is(Long.MIN_VALUE, x.sum(-1), "sum(-1)");
        x.start();
        k.gauges(x, 0, 0, 0, 1);
        x.tick(5);
        k.gauges(x, 10, 5, 0, 0);
        k.is(-1, x.mover(0), "none TOOK");
    }

    private static void byNeed(Check k) {
        k.part("(3), (4): by NEED, of like ones by number");
        OilPush x = Check.plant(100, 50);
        int[] loads = {30, 10, 30, 10, 51, 0};
        for (int c = 0; c < 6; c++) {
            x.cylinder(0, 1, 100);
            Check.load(x, c, loads[c]);
            x.rule(c, 1, 20 + c);
            x.valve(c, 1);
        }
        x.tick(1);
        k.gauges(x, 30, 0, 0, 5);
        int[] order = {5, 1, 3, 0, 2};
        int[] took = {20, 21, 11, 23, 0, 25};
        for (int i = 0; i < 5; i++) {
            k.is(order[i], x.mover(i), "mover(" + i + ")");
        }
        for (int c = 0; c < 6; c++) {
            k.is(took[c], x.about(c, 9), "what " + c + " TOOK");
            k.is(took[c], x.about(c, 3), "OIL of " + c);
        }
        k.sums(x, 25 * 30 + 44 * 20, 44 * 10 + 31 * 30, 100 * 30);
        x.pump(0, 25);
        x.tick(1);
        k.gauges(x, 0, 0, 0, 1);
        k.is(0, x.about(0, 9), "nothing was left for it");
        k.is(-1, x.mover(1), "those that TOOK 0 are no movers");
        x.pump(0, 70);
        x.tick(1);
        k.gauges(x, 30, 0, 0, 4);
    }

    private static void limit(Check k) {
        k.part("(3), (4): THE LIMIT");
        OilPush x = Check.plant(40, 20);
        x.cylinder(0, 2, 10);
        x.cylinder(0, 2, 10);
        x.cylinder(0, 2, 10);
        Check.load(x, 0, 30);
        Check.load(x, 1, 31);
        Check.load(x, 2, 31);
        x.rule(0, 0, 5);
        x.rule(1, 0, 5);
        x.rule(2, 0, 4);
        for (int c = 0; c < 3; c++) {
            x.valve(c, 1);
        }
        x.fill(2, 20);
        x.tick(1);
        k.is(20, x.about(0, 9), "NEED is R: it MOVES");
        k.is(0, x.about(1, 9), "NEED is above R");
        k.is(0, x.about(2, 9), "it is full");
        k.gauges(x, 20, 20, 0, 1);
        k.sums(x, 20 * 20, 20 * 20, 40 * 20);
        x.fill(0, 15);
        x.tick(1);
        k.is(5, x.about(0, 9), "what is left of its ROOM");
        k.gauges(x, 20, 35, 0, 1);
        x.fill(0, 0);
        x.fill(2, 0);
        Check.load(x, 2, 0);
        x.rule(2, 0, 2);
        x.pump(0, 45);
        x.tick(1);
        k.gauges(x, 20, 5, 0, 2);
        k.sums(x, 20 * 20 + 35 * 20 + 20 * 18 + 5 * 20, 25 * 20 + 20 * 2 + 20 * 20, 40 * 20 * 2 + 45 * 20);
    }

    private static void losses(Check k) {
        k.part("(2): what is lost");
        for (int kind = 0; kind < 3; kind++) {
            for (int burst = 0; burst < 2; burst++) {
                for (int valve = 0; valve < 3; valve++) {
                    for (int load = 0; load < 2; load++) {
                        OilPush x = Check.plant(0, 100);
                        x.cylinder(kind, 5, 10);
                        Check.load(x, 0, load);
                        x.fill(0, 30);
                        x.rule(0, 1, 20);
                        x.rule(0, 2, 7);
                        x.valve(0, valve);
                        x.burst(0, burst == 1);
                        x.tick(1);
                        int leak = valve == 0 && kind == 0 && load == 1 ? 7 : valve == 2 ? 20 : 0;
                        int due = burst == 1 ? (kind == 0 ? 20 : 0) : leak;
                        String which = "kind " + kind + ", burst " + burst + ", valve " + valve + ", load " + load;
                        k.is(-due, x.about(0, 9), which);
                        k.is(30 - due, x.about(0, 3), which);
                        k.gauges(x, 0, 0, 0, 0);
                        x.fill(0, 3);
                        x.tick(1);
                        k.is(-Math.min(due, 3), x.about(0, 9), "all it has, " + which);
                        k.is(3 - Math.min(due, 3), x.about(0, 3), "all it has, " + which);
                    }
                }
            }
        }
    }

    private static void lossesOnTheWay(Check k) {
        k.part("(2): LOAD as it is by OIL");
        OilPush x = Check.plant(10, 100);
        x.cylinder(0, 5, 10);
        Check.load(x, 0, 0, 5);
        x.fill(0, 30);
        x.rule(0, 2, 4);
        int[] due = {26, 22, 22};
        for (int oil : due) {
            x.tick(1);
            k.is(oil, x.about(0, 3), "OIL");
        }
        x.burst(0, true);
        x.valve(0, 1);
        x.rule(0, 1, 2);
        x.tick(1);
        k.is(-2, x.about(0, 9), "BURST: it does not MOVE, and loses FLOW");
        k.gauges(x, 100, 10, 0, 0);
        x.burst(0, false);
        x.rule(0, 1, 1000);
        x.pump(0, 30);
        x.fill(0, 0);
        Check.load(x, 0, 5, 500);
        x.tick(1);
        k.is(30, x.about(0, 3), "one NEED for all of a TICK");
        k.gauges(x, 1, 0, 0, 1);
        x.tick(1);
        k.gauges(x, 100, 10, 0, 1);
        k.is(50, x.about(0, 3), "LOAD of the second half");
    }

    private static void storeTakes(Check k) {
        k.part("(4): THE STORE TAKES");
        OilPush x = Check.plant(30, 40);
        x.store(50, 10, 2);
        x.cylinder(0, 1, 100);
        Check.load(x, 0, 15);
        x.rule(0, 1, 12);
        x.valve(0, 1);
        x.tick(1);
        k.gauges(x, 15, 0, 18, 1);
        k.sums(x, 18 * 5, 12 * 15, 30 * 15);
        x.tick(1);
        k.gauges(x, 19, 0, 18, 1);
        k.sums(x, 18 * 5 + 12 * 4, 2 * 12 * 15, 30 * 15 + 30 * 19);
        x.tick(1);
        k.gauges(x, 40, 4, 14, 1);
        k.sums(x, 90 + 48 + 12 * 25 + 14 * 12 + 4 * 40, 3 * 12 * 15, 30 * (15 + 19 + 40));
        k.is(50, x.sum(3), "OIL in THE STORE");
        k.is(35, x.sum(4), "its PRESSURE");
        x.tick(1);
        k.gauges(x, 40, 18, 0, 1);
        x.store(60, 15, 2);
        x.tick(1);
        k.gauges(x, 40, 8, 10, 1);
        x.store(90, 11, 2);
        x.tick(1);
        k.gauges(x, 40, 18, 0, 1);
        k.is(41, x.sum(4), "a PRESSURE above R TAKES nothing");
    }

    private static void byOne(Check k) {
        k.part("(4): just 1");
        OilPush x = Check.plant(1, 40);
        x.tick(1);
        k.gauges(x, 40, 1, 0, 0);
        x.store(1, 10, 1);
        x.tick(1);
        k.gauges(x, 10, 0, 1, 0);
        k.is(11, x.sum(4), "its PRESSURE");
        x.tick(1);
        k.gauges(x, 40, 1, 0, 0);
        x.store(9, 39, 1);
        x.tick(1);
        k.gauges(x, 40, 0, 1, 0);
        x.tick(1);
        k.gauges(x, 40, 1, 0, 0);
        k.is(2, x.sum(3), "a PRESSURE of R TAKES, one above it does not");
        x.store(9, 0, 1);
        x.cylinder(0, 1, 1);
        x.valve(0, 1);
        x.tick(1);
        k.gauges(x, 0, 0, 0, 1);
        k.is(1, x.about(0, 9), "what it TOOK");
        x.fill(0, 0);
        x.pump(0, 0);
        x.tick(1);
        k.gauges(x, 0, 0, -1, 0);
        k.sums(x, 3 * 40, 0, 40 + 10 + 40 + 40 + 40);
    }

    private static void storeGives(Check k) {
        k.part("(5): THE STORE gives");
        OilPush x = Check.plant(100, 90);
        x.store(100, 20, 5);
        x.tick(1);
        k.is(40, x.sum(4), "its PRESSURE");
        long heat = x.sum(0);
        long given = x.sum(2);
        for (int c = 0; c < 4; c++) {
            x.cylinder(0, 1, 60);
            x.rule(c, 1, 25);
            x.valve(c, 1);
        }
        Check.load(x, 0, 37);
        Check.load(x, 1, 30);
        Check.load(x, 2, 30);
        Check.load(x, 3, 60);
        x.pump(0, 30);
        x.tick(1);
        int[] oil = {0, 25, 25, 0};
        for (int c = 0; c < 4; c++) {
            k.is(oil[c], x.about(c, 3), "OIL of " + c);
            k.is(oil[c], x.about(c, 9), "what " + c + " TOOK");
        }
        k.gauges(x, 30, 0, -20, 2);
        k.is(80, x.sum(3), "OIL in THE STORE");
        k.sums(x, heat, 30 * 30, given + 30 * 30);
        k.is(2, x.mover(1), "mover(1)");
        x.pump(0, 0);
        x.tick(1);
        int[] later = {0, 50, 50, 0};
        for (int c = 0; c < 4; c++) {
            k.is(later[c], x.about(c, 3), "OIL of " + c);
        }
        k.gauges(x, 0, 0, -50, 0);
        k.sums(x, heat, 30 * 30, given + 30 * 30);
        k.is(30, x.sum(3), "OIL in THE STORE");
        k.is(-1, x.mover(0), "from THE STORE is no mover");
        Check.load(x, 1, 26);
        Check.load(x, 2, 26);
        x.tick(1);
        k.is(60, x.about(1, 3), "the rest of ROOM");
        k.is(50, x.about(2, 3), "26 is above 24");
        k.gauges(x, 0, 0, -10, 0);
        Check.load(x, 0, 0);
        Check.load(x, 3, 0);
        x.tick(1);
        k.is(20, x.about(0, 9), "all OIL that is there");
        k.is(0, x.about(3, 9), "nothing is there");
        k.is(0, x.sum(3), "OIL in THE STORE");
    }

    private static void storeGivesOnlyThen(Check k) {
        k.part("(5): only if nothing is left");
        OilPush x = Check.plant(10, 90);
        x.store(10, 50, 1);
        x.tick(1);
        x.cylinder(0, 1, 60);
        x.cylinder(0, 1, 60);
        x.rule(0, 1, 8);
        x.valve(0, 1);
        x.tick(1);
        k.gauges(x, 90, 2, 0, 1);
        k.is(10, x.sum(3), "something was left of Q");
        x.rule(0, 1, 10);
        x.tick(1);
        k.gauges(x, 0, 0, 0, 1);
        k.is(10, x.sum(3), "it has TAKEN FLOW");
        x.rule(0, 1, 13);
        x.tick(1);
        k.gauges(x, 0, 0, -3, 1);
        k.is(13, x.about(0, 9), "from PUMP and STORE");
        x.fill(0, 50);
        x.tick(1);
        k.gauges(x, 0, 0, 0, 1);
        k.is(60, x.about(0, 3), "it has TAKEN its ROOM's rest");
        x.valve(1, 1);
        x.burst(1, true);
        x.pump(0, 0);
        x.tick(1);
        k.gauges(x, 0, 0, 0, 0);
        x.burst(1, false);
        x.rule(1, 0, 91);
        x.store(10, 100, 1);
        x.tick(1);
        k.gauges(x, 0, 0, 0, 0);
        k.is(7, x.sum(3), "NEED above R: not of (3)");
        x.rule(1, 0, 90);
        x.tick(1);
        k.gauges(x, 0, 0, -7, 0);
    }

    private static OilPush working() {
        OilPush x = Check.plant(7, 30);
        x.cylinder(0, 3, 30);
        x.cylinder(2, 4, 30);
        Check.load(x, 0, 10, 60, 20);
        Check.load(x, 1, 90, 5, 200);
        x.store(40, 9, 3);
        x.valve(0, 1);
        x.valve(1, 1);
        x.rule(1, 1, 4);
        return x;
    }

    private static void manyAtOnce(Check k) {
        k.part("n TICKS are n times one");
        OilPush x = working();
        OilPush y = working();
        // What comes into THE STORE at its own PRESSURE is neither HEAT nor WORK, but GIVEN.
        long stored = 0;
        for (int i = 0; i < 60; i++) {
            long own = x.sum(4);
            x.tick(1);
            stored += own * Math.max(0, x.gauge(2));
        }
        y.tick(60);
        for (int what = 0; what < 5; what++) {
            k.is(x.sum(what), y.sum(what), "sum(" + what + ")");
        }
        for (int what = 0; what < 4; what++) {
            k.is(x.gauge(what), y.gauge(what), "gauge(" + what + ")");
        }
        k.isTrue(stored > 0, "THE STORE TOOK");
        k.is(x.sum(2), x.sum(0) + x.sum(1) + stored, "what is GIVEN");
    }

    public static void main(String[] args) {
        Check k = new Check("TicksTest");
        counting(k);
        refusals(k);
        byNeed(k);
        limit(k);
        losses(k);
        lossesOnTheWay(k);
        storeTakes(k);
        byOne(k);
        storeGives(k);
        storeGivesOnlyThen(k);
        manyAtOnce(k);
        k.end();
    }
}
