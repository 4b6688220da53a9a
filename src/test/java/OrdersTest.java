/** Promises 15 to 20. */
public final class OrdersTest {
    private static void order(Check k) {
        k.part("promise 15");
        OilPush x = new OilPush();
        x.cylinder(0, 2, 2);
        x.cylinder(0, 2, 2);
        k.is(1, x.order(0, 0, 1, 2), "order(0, 0, 1, 2)");
        k.is(-1, x.order(2, 0, 0, 0), "c, though none is waited for");
        k.is(-1, x.order(-1, 0, 0, 0), "c");
        k.is(-1, x.order(0, 3, 2, 0), "d ahead of end");
        k.is(-1, x.order(0, 0, -1, 3), "d ahead of v");
        k.is(-2, x.order(0, -1, 0, 0), "end");
        k.is(-2, x.order(0, 3, 0, 0), "end");
        k.is(-2, x.order(0, 0, 0, -1), "v");
        k.is(-2, x.order(0, 0, 0, 3), "v");
        k.is(1, x.told(1), "told(1)");
        for (int i = 2; i <= 30; i++) {
            k.is(i, x.order(1, i % 3, 0, i % 3), "order " + i);
        }
        k.is(-4, x.order(0, 0, 0, 0), "FULL");
        k.is(-2, x.order(0, 3, 0, 0), "OUTSIDE ahead of FULL");
        k.is(-1, x.order(2, 0, 0, 0), "UNKNOWN ahead of FULL");
        x.tick(200);
        k.is(-4, x.order(0, 0, 0, 0), "30 ever");
    }

    private static void waits(Check k) {
        k.part("promise 16");
        OilPush x = Check.plant(4, 100);
        x.cylinder(0, 2, 4);
        x.cylinder(0, 2, 2);
        x.order(0, 0, 0, 1);
        x.order(1, 2, 1, 1);
        x.order(0, 1, 0, 2);
        x.order(0, 2, 1, 2);
        x.order(1, 1, 1, 0);
        k.is(0, x.waits(), "none is done by calls");
        x.tick(0);
        k.is(0, x.waits(), "none is done by no TICK");
        x.tick(1);
        k.is(2, x.waits(), "all that may be done, in one TICK");
        k.is(4, x.about(0, 3), "the VALVE is turned ahead of the move");
        k.is(0, x.about(1, 3), "nothing left for it");
        x.tick(1);
        k.is(2, x.waits(), "by OIL as it is at the TICK's begin");
        k.is(8, x.about(0, 3), "full now");
        x.tick(1);
        k.is(3, x.waits(), "the third");
        k.is(2, x.about(0, 6), "VALVE in");
        k.is(0, x.about(0, 3), "empty in the same TICK");
        k.is(4, x.about(1, 3), "the other is full");
        x.tick(1);
        k.is(5, x.waits(), "the fourth, and the fifth: OIL is still ROOM then");
        k.is(0, x.about(1, 6), "the later ORDER turned the VALVE last");
        k.is(4, x.about(1, 3), "it did not go in");
    }

    private static void waitsOn(Check k) {
        k.part("promise 16, one behind the other");
        OilPush x = Check.plant(0, 100);
        x.cylinder(0, 2, 2);
        x.cylinder(0, 2, 2);
        x.fill(1, 4);
        x.order(1, 1, 0, 2);
        x.order(0, 1, 0, 1);
        x.order(0, 0, 1, 2);
        x.tick(3);
        k.is(1, x.waits(), "those behind wait, too");
        k.is(0, x.about(1, 6), "VALVE of 1");
        x.valve(0, 0);
        x.fill(0, 4);
        x.tick(1);
        k.is(3, x.waits(), "filled by a call");
        k.is(1, x.about(0, 6), "VALVE of 0");
        k.is(0, x.about(1, 3), "VALVE of 1 was in");
        x.tick(1);
        k.is(3, x.waits(), "no more");
        k.is(4, x.order(0, 0, 0, 0), "another one");
        k.is(3, x.waits(), "it waits");
        x.tick(1);
        k.is(4, x.waits(), "it is done");
        k.is(0, x.about(0, 6), "VALVE of 0");
        x.start();
        k.is(4, x.waits(), "START changes none");
    }

    private static void readings(Check k) {
        k.part("promises 18, 19");
        OilPush x = new OilPush();
        x.cylinder(0, 3, 3);
        x.cylinder(1, 2, 3);
        k.is(1, x.reading(0, 0, 9), "x is ROOM");
        k.is(2, x.reading(200, 1, 0), "t is 200, ahead of any START");
        k.is(-1, x.reading(-1, 2, 0), "UNKNOWN first");
        k.is(-1, x.reading(0, -1, 0), "no such CYLINDER");
        k.is(-2, x.reading(-1, 0, 0), "t below");
        k.is(-2, x.reading(201, 0, 0), "t above");
        k.is(-2, x.reading(0, 0, -1), "x below");
        k.is(-2, x.reading(0, 0, 10), "x above");
        k.is(-2, x.reading(0, 1, 7), "x above its ROOM");
        for (int i = 3; i <= 20; i++) {
            k.is(i, x.reading(1, 1, 6), "reading " + i);
        }
        k.is(-4, x.reading(1, 1, 6), "FULL");
        k.is(-2, x.reading(201, 1, 6), "OUTSIDE ahead of FULL");
        k.is(-1, x.reading(1, 2, 6), "UNKNOWN ahead of FULL");
        k.is(20, x.told(2), "told(2)");
        k.is(20, x.forget(), "forget()");
        k.is(0, x.told(2), "told(2)");
        k.is(0, x.forget(), "forget()");
        k.is(1, x.reading(1, 1, 6), "room again");
    }

    private static void start(Check k) {
        k.part("promise 17");
        OilPush x = Check.plant(5, 50);
        x.cylinder(0, 3, 30);
        x.valve(0, 1);
        x.reading(0, 0, 10);
        x.tick(2);
        k.is(-3, x.leak(0), "no START");
        k.is(1, x.start(), "start()");
        k.is(0, x.told(3), "told(3)");
        k.is(1, x.told(2), "READINGS stay");
        k.is(10, x.about(0, 3), "OIL stays");
        k.is(5, x.gauge(3) * 5, "the latest TICK stays");
        k.is(0, x.leak(0), "OIL of START");
        x.tick(1);
        k.is(1, x.start(), "a START again");
        k.is(-9, x.leak(0), "OIL of that START");
        x.forget();
        x.reading(0, 0, 15);
        k.is(1, x.leak(1), "OIL of that START");
    }

    private static void leakRefusals(Check k) {
        k.part("promise 20, refusals");
        OilPush x = new OilPush();
        k.is(-2, x.leak(2), "OUTSIDE first");
        k.is(-2, x.leak(-1), "leak(-1)");
        k.is(-3, x.leak(1), "no START");
        x.start();
        k.is(-9, x.leak(0), "no CYLINDER");
        x.cylinder(1, 2, 5);
        x.cylinder(2, 2, 5);
        k.is(-9, x.leak(1), "all are HELD");
        x.cylinder(0, 2, 5);
        k.is(2, x.leak(0), "the first that is not HELD");
        k.is(1, x.leak(1), "the first LEAK");
        x.reading(1, 0, 0);
        k.is(-3, x.leak(0), "a READING that is not yet");
        x.tick(1);
        k.is(2, x.leak(0), "now it is");
        x.reading(2, 0, 0);
        k.is(-3, x.leak(0), "not yet");
        k.is(-2, x.leak(2), "OUTSIDE first");
        x.tick(199);
        k.is(2, x.leak(0), "200 TICKS since");
        x.tick(1);
        k.is(-3, x.leak(0), "201 TICKS since");
        x.forget();
        k.is(-3, x.leak(0), "201 TICKS since, no READINGS");
        x.start();
        k.is(2, x.leak(0), "a START");
    }

    private static void oneLeak(Check k) {
        k.part("promise 20, which LEAK");
        for (int leaking = 0; leaking < 3; leaking += 2) {
            for (int amount : new int[] {1, 2, 7, 19, 20, 21}) {
                OilPush x = Check.plant(6, 100);
                for (int c = 0; c < 3; c++) {
                    x.cylinder(c == 1 ? 1 : 0, 10, 10);
                    Check.load(x, c, 50);
                    x.fill(c, 100 - c);
                }
                x.rule(0, 2, 50);
                x.start();
                x.rule(0, 2, 0);
                x.rule(leaking, 2, amount);
                long heat = x.sum(0);
                for (int t = 1; t <= 3; t++) {
                    heat += 600;
                    x.tick(1);
                    for (int c = 0; c < 3; c++) {
                        x.reading(t, c, x.about(c, 3));
                    }
                }
                x.rule(leaking, 2, 0);
                k.is(amount > 20 ? -9 : leaking, x.leak(0), "CYLINDER, " + leaking + " leaks " + amount);
                k.is(amount > 20 ? -9 : amount, x.leak(1), "LEAK, " + leaking + " leaks " + amount);
                k.is(heat, x.sum(0), "HEAT is not of trials");
                k.is(100, x.gauge(0), "THE PRESSURE is not of trials");
                k.is(3, x.told(3), "TICKS are not of trials");
                k.is(100 - leaking - 3 * amount, x.about(leaking, 3), "OIL is not of trials");
                k.is(0, x.about(leaking, 9) + amount, "what it TOOK is not of trials");
                k.is(0, x.rule(leaking, 2, 0), "LEAK is not of trials");
            }
        }
    }

    private static void leakOfNone(Check k) {
        k.part("promise 20, no LEAK at all");
        OilPush x = Check.plant(0, 100);
        x.cylinder(0, 10, 10);
        Check.load(x, 0, 50);
        x.fill(0, 90);
        x.start();
        x.tick(1);
        x.reading(1, 0, 90);
        k.is(-9, x.leak(0), "nothing was lost: no LEAK tells that");
        x.valve(0, 1);
        k.is(-9, x.leak(0), "calls between TICKS are not reckoned with");
        x.fill(0, 3);
        x.burst(0, true);
        k.is(-9, x.leak(0), "nor are they here");
        x.forget();
        x.reading(1, 0, 83);
        k.is(7, x.leak(1), "OIL, VALVE, hose as at START");
        Check.load(x, 0, 0);
        k.is(-9, x.leak(1), "LOADS as they are now");
    }

    /** A START whose VALVES, hoses, ORDERS and STORE matter; then all is changed by calls. */
    private static void asAtStart(Check k) {
        k.part("promise 20, what START keeps and what is as it is now");
        OilPush x = Check.plant(10, 100);
        x.cylinder(0, 10, 10);
        x.cylinder(0, 10, 10);
        x.cylinder(0, 10, 10);
        Check.load(x, 0, 505);
        Check.load(x, 1, 100);
        x.fill(1, 50);
        x.fill(2, 30);
        x.store(60, 50, 10);
        x.tick(2);
        x.valve(0, 1);
        x.burst(2, true);
        x.rule(2, 1, 9);
        x.order(2, 2, 1, 2);
        x.order(1, 2, 0, 2);
        x.start();
        x.rule(1, 2, 6);
        x.rule(1, 1, 15);
        x.rule(0, 1, 14);
        int[][] due = {{14, 44, 21}, {28, 38, 12}, {42, 32, 3}, {52, 26, 0}, {62, 11, 0}, {72, 0, 0}, {58, 0, 0}};
        for (int t = 1; t <= due.length; t++) {
            x.tick(1);
            for (int c = 0; c < 3; c++) {
                k.is(due[t - 1][c], x.about(c, 3), "OIL of " + c + " behind " + t);
                if (t > 1) {
                    x.reading(t, c, due[t - 1][c]);
                }
            }
        }
        x.rule(1, 2, 0);
        k.is(1, x.leak(0), "CYLINDER");
        k.is(6, x.leak(1), "LEAK");
        x.valve(0, 2);
        x.fill(1, 77);
        x.burst(2, false);
        x.burst(1, true);
        x.store(5000, 0, 1);
        k.is(6, x.leak(1), "what START kept is not changed by calls");
        x.order(0, 0, 2, 1);
        k.is(6, x.leak(1), "an ORDER that a BURST one does not feel");
        x.pump(0, 11);
        k.is(-9, x.leak(1), "Q is as it is now");
        x.pump(0, 10);
        x.rule(0, 0, 101);
        k.is(-9, x.leak(1), "CRACK is as it is now");
        x.rule(0, 0, 0);
        x.rule(0, 1, 13);
        k.is(-9, x.leak(1), "FLOW is as it is now");
        x.rule(0, 1, 14);
        x.rule(0, 2, 100);
        x.rule(1, 2, 100);
        k.is(6, x.leak(1), "LEAKS are not");
        x.pump(1, 1);
        x.rule(0, 0, 2);
        k.is(-9, x.leak(1), "R is as it is now");
    }

    private static void cameLater(Check k) {
        k.part("promise 20, a CYLINDER that came behind START");
        OilPush x = Check.plant(10, 100);
        x.cylinder(1, 10, 10);
        x.start();
        x.cylinder(0, 10, 10);
        Check.load(x, 1, 5);
        x.order(0, 0, 1, 1);
        x.order(1, 0, 1, 0);
        x.fill(1, 70);
        x.tick(3);
        x.reading(0, 1, 0);
        k.is(1, x.leak(0), "it is empty at START");
        x.reading(3, 1, 0);
        k.is(1, x.leak(0), "ORDERS of now turn its VALVE");
        x.reading(3, 1, 1);
        k.is(-9, x.leak(0), "none tells that");
    }

    public static void main(String[] args) {
        Check k = new Check("OrdersTest");
        order(k);
        waits(k);
        waitsOn(k);
        readings(k);
        start(k);
        leakRefusals(k);
        oneLeak(k);
        leakOfNone(k);
        asAtStart(k);
        cameLater(k);
        k.end();
    }
}
