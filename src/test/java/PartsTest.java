/** Promises 2 to 10. */
public final class PartsTest {
    private static final int MIN = Integer.MIN_VALUE, MAX = Integer.MAX_VALUE;

    private static void pump(Check k) {
        k.part("promise 2");
        OilPush x = new OilPush();
        k.is(0, x.pump(0, 1000), "pump(0, 1000)");
        k.is(1000, x.pump(0, 0), "pump(0, 0)");
        k.is(0, x.pump(0, 7), "pump(0, 7)");
        k.is(100, x.pump(1, 1), "pump(1, 1)");
        k.is(1, x.pump(1, 1000), "pump(1, 1000)");
        k.is(-2, x.pump(0, -1), "pump(0, -1)");
        k.is(-2, x.pump(0, 1001), "pump(0, 1001)");
        k.is(-2, x.pump(1, 0), "pump(1, 0)");
        k.is(-2, x.pump(1, 1001), "pump(1, 1001)");
        k.is(-1, x.pump(2, -1), "pump(2, -1), UNKNOWN first");
        k.is(-1, x.pump(-1, 5), "pump(-1, 5)");
        k.is(7, x.pump(0, 8), "pump(0, 8), refusals changed nothing");
        k.is(1000, x.pump(1, 8), "pump(1, 8), refusals changed nothing");
    }

    private static void cylinder(Check k) {
        k.part("promise 3");
        OilPush x = new OilPush();
        k.is(0, x.cylinder(0, 1, 1), "cylinder(0, 1, 1)");
        k.is(-2, x.cylinder(-1, 1, 1), "kind below");
        k.is(-2, x.cylinder(3, 1, 1), "kind above");
        k.is(-2, x.cylinder(0, 0, 1), "area below");
        k.is(-2, x.cylinder(0, 101, 1), "area above");
        k.is(-2, x.cylinder(0, 1, 0), "stroke below");
        k.is(-2, x.cylinder(0, 1, 101), "stroke above");
        k.is(1, x.cylinder(1, 100, 100), "cylinder(1, 100, 100)");
        k.is(2, x.cylinder(2, 3, 4), "cylinder(2, 3, 4)");
        for (int c = 0; c < 3; c++) {
            k.is(c, x.about(c, 0), "kind of " + c);
        }
        k.is(100, x.about(1, 1), "AREA");
        k.is(3, x.about(2, 1), "AREA");
        k.is(4, x.about(2, 2), "STROKE");
        for (int c = 3; c < 6; c++) {
            k.is(c, x.cylinder(0, 2, 2), "cylinder " + c);
        }
        k.is(-4, x.cylinder(0, 2, 2), "a seventh");
        k.is(-2, x.cylinder(0, 0, 2), "OUTSIDE ahead of FULL");
        k.is(6, x.told(0), "told(0)");
    }

    private static void rule(Check k) {
        k.part("promise 4");
        OilPush x = new OilPush();
        x.cylinder(0, 1, 1);
        x.cylinder(0, 1, 1);
        k.is(0, x.rule(0, 0, 500), "CRACK 500");
        k.is(500, x.rule(0, 0, 0), "CRACK 0");
        k.is(1000, x.rule(0, 1, 1), "FLOW 1");
        k.is(1, x.rule(0, 1, 1000), "FLOW 1000");
        k.is(0, x.rule(0, 2, 100), "LEAK 100");
        k.is(100, x.rule(0, 2, 0), "LEAK 0");
        k.is(0, x.rule(1, 2, 5), "LEAK of the other");
        int[][] outside = {{0, -1}, {0, 501}, {1, 0}, {1, 1001}, {2, -1}, {2, 101}};
        for (int[] o : outside) {
            k.is(-2, x.rule(1, o[0], o[1]), "rule(1, " + o[0] + ", " + o[1] + ")");
        }
        k.is(-1, x.rule(2, 0, -1), "no such CYLINDER");
        k.is(-1, x.rule(-1, 0, 1), "no such CYLINDER");
        k.is(-1, x.rule(0, 3, -1), "no such what");
        k.is(-1, x.rule(0, -1, 1), "no such what");
        k.is(0, x.rule(1, 0, 9), "CRACK is as it was");
        k.is(1000, x.rule(1, 1, 9), "FLOW is as it was");
        k.is(5, x.rule(1, 2, 9), "LEAK is as it was");
        k.is(9, x.about(1, 5), "CRACK is in NEED");
        k.is(0, x.about(0, 5), "of that CYLINDER alone");
    }

    private static void loads(Check k) {
        k.part("promise 5");
        OilPush x = new OilPush();
        x.cylinder(0, 10, 10);
        x.sheet(0, 2, 12);
        for (int i = 0; i < 12; i++) {
            x.put(0, i, 100 * i);
        }
        k.is(10, x.loads(0, 0, 2, 2, 10), "ten from 2 on");
        k.is(10, x.about(0, 7), "how many LOADS");
        k.is(200, x.about(0, 4), "the first");
        x.fill(0, 9);
        k.is(200, x.about(0, 4), "LOAD at 9");
        x.fill(0, 10);
        k.is(300, x.about(0, 4), "LOAD at 10");
        x.fill(0, 99);
        k.is(1100, x.about(0, 4), "LOAD at 99");
        x.fill(0, 100);
        k.is(1100, x.about(0, 4), "LOAD at ROOM is the last one");
        x.put(0, 11, 5);
        k.is(1100, x.about(0, 4), "the SHEET's cells are copied");
        k.is(-2, x.loads(0, 0, 2, 1, 11), "eleven");
        k.is(10, x.about(0, 7), "how many LOADS");
        k.is(2, x.loads(0, 0, 2, 0, 2), "two");
        k.is(2, x.about(0, 7), "how many LOADS");
        k.is(100, x.about(0, 4), "the last of two");
        x.put(0, 0, 100000);
        k.is(1, x.loads(0, 0, 2, 0, 1), "a load of 100000");
        k.is(100000, x.about(0, 4), "LOAD");
        x.put(0, 0, 0);
        k.is(1, x.loads(0, 0, 2, 0, 1), "a load of 0");
        k.is(0, x.about(0, 4), "LOAD");
        x.cylinder(0, 1, 1);
        k.is(3, x.loads(1, 0, 2, 1, 3), "three in a ROOM of 1");
        k.is(100, x.about(1, 4), "the first");
        x.fill(1, 1);
        k.is(300, x.about(1, 4), "the last");
    }

    private static void loadsRefused(Check k) {
        k.part("promise 5, refusals and FAULTS");
        OilPush x = new OilPush();
        x.cylinder(0, 10, 10);
        x.sheet(0, 2, 12);
        x.put(0, 3, 77);
        x.put(0, 4, 100001);
        x.put(0, 5, -1);
        x.loads(0, 0, 2, 3, 1);
        k.is(-1, x.loads(1, 0, 3, 0, 1), "no such CYLINDER, UNKNOWN ahead of the lane");
        k.is(-1, x.loads(-1, 0, 2, 0, 1), "no such CYLINDER");
        k.is(-1, x.loads(0, 4, 3, 0, 1), "no such SHEET");
        k.is(-1, x.loads(0, -1, 2, 0, 1), "no such SHEET");
        k.is(0, x.fault(), "a refusal is no FAULT");
        k.is(-2, x.loads(0, 1, 3, 0, 1), "the lane ahead of NULL");
        k.is(-2, x.loads(0, 0, -1, 0, -1), "the lane ahead of CAST, SIZE");
        k.is(-11, x.loads(0, 1, 0, -1, -1), "NULL ahead of SIZE, INDEX");
        k.is(1, x.fault(), "fault()");
        k.is(-12, x.loads(0, 0, 1, -1, -1), "CAST ahead of SIZE, INDEX");
        k.is(2, x.fault(), "fault()");
        k.is(-14, x.loads(0, 0, 2, -1, -1), "SIZE ahead of INDEX");
        k.is(4, x.fault(), "fault()");
        k.is(-14, x.loads(0, 0, 2, 0, MIN), "SIZE");
        k.is(-13, x.loads(0, 0, 2, -1, 1), "i below 0");
        k.is(3, x.fault(), "fault()");
        k.is(-13, x.loads(0, 0, 2, 12, 1), "i beyond");
        k.is(-13, x.loads(0, 0, 2, 3, 10), "n beyond");
        k.is(-13, x.loads(0, 0, 2, 0, 13), "INDEX ahead of n above 10");
        k.is(-13, x.loads(0, 0, 2, 4, 9), "INDEX ahead of a load");
        k.is(-13, x.loads(0, 0, 2, MAX, MAX), "no sum wraps");
        k.is(-13, x.loads(0, 0, 2, 13, 0), "i beyond with none");
        k.is(-2, x.loads(0, 0, 2, 12, 0), "n 0 at the end");
        k.is(0, x.fault(), "OUTSIDE behind the FAULTS");
        k.is(-2, x.loads(0, 0, 2, 0, 11), "n 11");
        k.is(-2, x.loads(0, 0, 2, 3, 2), "a load above");
        k.is(-2, x.loads(0, 0, 2, 5, 1), "a load below");
        k.is(1, x.about(0, 7), "nothing changed");
        k.is(77, x.about(0, 4), "nothing changed");
        x.sheet(0, 0, 2);
        x.put(0, 0, 128);
        k.is(-2, x.loads(0, 0, 0, 0, 1), "128 is -128 as a byte");
        x.put(0, 0, 127);
        k.is(1, x.loads(0, 0, 0, 0, 1), "127");
        x.sheet(0, 0, 0);
        k.is(-13, x.loads(0, 0, 0, 0, 1), "a row of none");
    }

    private static void valveAndFill(Check k) {
        k.part("promises 6, 7");
        OilPush x = new OilPush();
        x.cylinder(0, 3, 4);
        x.cylinder(1, 5, 6);
        k.is(0, x.valve(0, 1), "valve(0, 1)");
        k.is(1, x.valve(0, 2), "valve(0, 2)");
        k.is(2, x.valve(0, 0), "valve(0, 0)");
        k.is(0, x.valve(0, 2), "valve(0, 2)");
        k.is(-2, x.valve(0, 3), "valve(0, 3)");
        k.is(-2, x.valve(0, -1), "valve(0, -1)");
        k.is(-1, x.valve(2, 3), "UNKNOWN first");
        k.is(-1, x.valve(-1, 0), "valve(-1, 0)");
        k.is(2, x.about(0, 6), "as it was");
        k.is(0, x.about(1, 6), "the other");
        k.is(0, x.fill(0, 12), "fill(0, ROOM)");
        k.is(12, x.fill(0, 5), "fill(0, 5)");
        k.is(-2, x.fill(0, 13), "above ROOM");
        k.is(-2, x.fill(0, -1), "below 0");
        k.is(0, x.fill(1, 30), "the other's ROOM");
        k.is(-1, x.fill(2, -1), "UNKNOWN first");
        k.is(-1, x.fill(-1, 0), "fill(-1, 0)");
        k.is(5, x.fill(0, 0), "as it was");
        k.is(0, x.about(0, 3), "OIL");
    }

    private static void burstAndStore(Check k) {
        k.part("promises 8, 9");
        OilPush x = new OilPush();
        x.cylinder(0, 3, 4);
        x.cylinder(1, 3, 4);
        k.is(0, x.burst(0, false), "it was whole");
        k.is(1, x.burst(0, true), "it bursts");
        k.is(0, x.burst(0, true), "it was BURST");
        k.is(1, x.about(0, 8), "about(0, 8)");
        k.is(0, x.about(1, 8), "the other");
        k.is(1, x.burst(0, false), "mended");
        k.is(0, x.about(0, 8), "about(0, 8)");
        k.is(-1, x.burst(2, true), "burst(2, true)");
        k.is(-1, x.burst(-1, false), "burst(-1, false)");
        k.is(1, x.store(5000, 1000, 100), "the greatest");
        k.is(1000, x.sum(4), "FIRST");
        k.is(-2, x.store(-1, 0, 1), "CAP below");
        k.is(-2, x.store(5001, 0, 1), "CAP above");
        k.is(-2, x.store(0, -1, 1), "FIRST below");
        k.is(-2, x.store(0, 1001, 1), "FIRST above");
        k.is(-2, x.store(0, 0, 0), "STIFF below");
        k.is(-2, x.store(0, 0, 101), "STIFF above");
        k.is(1000, x.sum(4), "as it was");
        k.is(1, x.store(50, 7, 4), "store(50, 7, 4)");
        x.pump(0, 30);
        x.tick(1);
        k.is(30, x.sum(3), "OIL in it");
        k.is(14, x.sum(4), "7 and 30 by 4");
        k.is(-3, x.store(29, 1, 1), "more OIL than that");
        k.is(-2, x.store(29, 1, 0), "OUTSIDE ahead of STATE");
        k.is(14, x.sum(4), "as it was");
        k.is(1, x.store(30, 1, 100), "just that CAP");
        k.is(1, x.sum(4), "its PRESSURE");
        x.store(30, 1, 1);
        k.is(31, x.sum(4), "its PRESSURE, STIFF 1");
        k.is(30, x.sum(3), "its OIL stays");
        x.tick(1);
        k.is(30, x.gauge(1), "it is full: all goes over");
    }

    private static void about(Check k) {
        k.part("promise 10");
        OilPush x = Check.plant(0, 100);
        x.cylinder(2, 7, 9);
        int[] first = {2, 7, 9, 0, 0, 0, 0, 1, 0, 0};
        for (int what = 0; what < 10; what++) {
            k.is(first[what], x.about(0, what), "about(0, " + what + ") at first");
        }
        k.is(-2, x.about(0, 10), "about(0, 10)");
        k.is(-2, x.about(0, -1), "about(0, -1)");
        k.is(-1, x.about(1, 10), "UNKNOWN first");
        k.is(-1, x.about(-1, 0), "about(-1, 0)");
        x.cylinder(0, 7, 9);
        x.cylinder(1, 7, 9);
        int[] load = {0, 1, 7, 8, 14, 15, 99999, 100000};
        int[] plain = {0, 1, 1, 2, 2, 3, 14286, 14286};
        int[] halved = {0, 1, 1, 1, 1, 2, 7143, 7143};
        for (int i = 0; i < load.length; i++) {
            for (int c = 0; c < 3; c++) {
                Check.load(x, c, load[i]);
                x.rule(c, 0, 3);
                int due = 3 + (c == 0 ? halved[i] : plain[i]);
                k.is(due, x.about(c, 5), "NEED of kind " + x.about(c, 0) + " with " + load[i]);
            }
        }
        x.pump(0, 20);
        x.rule(1, 1, 8);
        Check.load(x, 1, 0);
        x.valve(1, 1);
        x.fill(2, 5);
        x.valve(2, 2);
        x.tick(1);
        k.is(8, x.about(1, 9), "what it TOOK");
        k.is(-5, x.about(2, 9), "what it lost");
        k.is(0, x.about(0, 9), "neither");
        x.fill(1, 0);
        x.tick(0);
        k.is(8, x.about(1, 9), "no TICK since");
    }

    public static void main(String[] args) {
        Check k = new Check("PartsTest");
        pump(k);
        cylinder(k);
        rule(k);
        loads(k);
        loadsRefused(k);
        valveAndFill(k);
        burstAndStore(k);
        about(k);
        k.end();
    }
}
