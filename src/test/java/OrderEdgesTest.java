/** 'Terms' 3, sentence by sentence: ORDERS, READINGS, START, ONE LEAK. */
public final class OrderEdgesTest {
    private static final int SHUT = 0, OUT = 1, IN = 2;
    private static final int NONE = -9;

    // ---- ORDERS

    private static void thirtyEver(Check k) {
        k.part("ORDERS, 30 ever");
        OilPush x = new OilPush();
        k.is(-1, x.order(0, 0, 0, 0), "no CYLINDER");
        x.cylinder(0, 1, 1);
        for (int i = 1; i <= 29; i++) {
            x.order(0, 0, 0, i % 3);
        }
        k.is(29, x.told(1), "one ahead of full");
        k.is(30, x.order(0, 0, 0, IN), "the last");
        k.is(-4, x.order(0, 0, 0, 0), "FULL");
        k.is(30, x.told(1), "as it was");
        k.is(0, x.waits(), "none is done yet");
        x.tick(1);
        k.is(30, x.waits(), "all thirty in one TICK");
        k.is(IN, x.about(0, 6), "the last one's VALVE");
        k.is(-4, x.order(0, 0, 0, 0), "those that are done count, too");
        x.start();
        k.is(-4, x.order(0, 0, 0, 0), "START frees none");
        x.tick(1);
        k.is(30, x.waits(), "none is done twice");
        x.valve(0, OUT);
        x.tick(1);
        k.is(OUT, x.about(0, 6), "none is done twice");
    }

    private static void ends(Check k) {
        k.part("an END: 0: none is waited for; 1: OIL is ROOM; 2: OIL is 0");
        for (int end = 0; end <= 2; end++) {
            for (int oil = 0; oil <= 6; oil++) {
                OilPush x = new OilPush();
                x.cylinder(1, 2, 3);
                x.cylinder(1, 2, 3);
                x.fill(0, oil);
                k.is(1, x.order(0, end, 1, OUT), "order");
                x.tick(1);
                boolean done = end == 0 || oil == (end == 1 ? 6 : 0);
                k.is(done ? 1 : 0, x.waits(), "END " + end + ", OIL " + oil);
                k.is(done ? OUT : SHUT, x.about(1, 6), "VALVE, END " + end + ", OIL " + oil);
                k.is(SHUT, x.about(0, 6), "VALVE of the one that is waited for");
            }
        }
        k.part("a ROOM of 1: at one END or the other");
        OilPush x = new OilPush();
        x.cylinder(1, 1, 1);
        x.order(0, 2, 0, OUT);
        x.order(0, 1, 0, IN);
        x.order(0, 2, 0, SHUT);
        x.pump(0, 1);
        x.tick(1);
        k.is(1, x.waits(), "empty");
        x.tick(1);
        k.is(2, x.waits(), "full");
        x.tick(1);
        k.is(3, x.waits(), "empty again");
        k.is(0, x.about(0, 3), "OIL");
    }

    private static void turns(Check k) {
        k.part("then VALVE of CYLINDER d becomes v");
        for (int was = SHUT; was <= IN; was++) {
            for (int v = SHUT; v <= IN; v++) {
                OilPush x = Check.plant(5, 10);
                x.cylinder(0, 2, 10);
                Check.load(x, 0, 2);
                x.fill(0, 10);
                x.rule(0, 1, 5);
                x.rule(0, 2, 3);
                x.valve(0, was);
                x.order(0, 0, 0, v);
                x.tick(0);
                k.is(was, x.about(0, 6), "not by tick(0)");
                x.tick(1);
                k.is(v, x.about(0, 6), "VALVE");
                k.is(v == OUT ? 5 : v == IN ? -5 : -3, x.about(0, 9), "it is turned ahead of (2) and (3)");
            }
        }
    }

    private static void byOilAsItIsThen(Check k) {
        k.part("all that may be done by OIL as it is then, from the one that waits on");
        OilPush x = Check.plant(4, 10);
        x.cylinder(0, 2, 4);
        x.cylinder(0, 2, 4);
        x.fill(1, 8);
        x.order(0, 2, 0, OUT);
        x.order(1, 1, 1, IN);
        x.order(0, 1, 0, SHUT);
        x.order(1, 2, 1, OUT);
        x.tick(1);
        k.is(2, x.waits(), "the third waits, though the fourth's END comes in this TICK");
        k.is(0, x.about(1, 3), "empty");
        x.tick(1);
        k.is(2, x.waits(), "full only at this TICK's end");
        k.is(8, x.about(0, 3), "full");
        x.tick(1);
        k.is(4, x.waits(), "both");
        k.is(SHUT, x.about(0, 6), "the third's VALVE");
        k.is(OUT, x.about(1, 6), "the fourth's VALVE");
        k.part("an END that is gone when its ORDER comes is not one");
        OilPush y = Check.plant(0, 10);
        y.cylinder(1, 2, 4);
        y.cylinder(1, 2, 4);
        y.fill(0, 1);
        y.fill(1, 8);
        y.order(0, 2, 0, OUT);
        y.order(1, 1, 0, IN);
        y.tick(1);
        y.fill(0, 0);
        y.fill(1, 7);
        y.tick(1);
        k.is(1, y.waits(), "the second waits now");
        k.is(OUT, y.about(0, 6), "VALVE");
        y.fill(1, 8);
        y.tick(1);
        k.is(2, y.waits(), "done");
    }

    private static void waitsFor(Check k) {
        k.part("The ORDER that waits (how many are done)");
        OilPush x = new OilPush();
        k.is(0, x.waits(), "none there");
        x.tick(1);
        k.is(0, x.waits(), "none there");
        x.cylinder(0, 1, 1);
        x.order(0, 1, 0, OUT);
        x.tick(200);
        k.is(0, x.waits(), "it waits on");
        x.fill(0, 1);
        k.is(0, x.waits(), "no TICK yet");
        x.tick(1);
        k.is(1, x.waits(), "done");
        k.is(2, x.order(0, 0, 0, IN), "another");
        k.is(1, x.waits(), "no TICK yet");
        x.tick(1);
        k.is(2, x.waits(), "done");
    }

    // ---- READINGS

    private static void twentyAtMost(Check k) {
        k.part("READINGS, 20 at most");
        OilPush x = new OilPush();
        k.is(0, x.forget(), "none there");
        k.is(-1, x.reading(0, 0, 0), "no CYLINDER");
        x.cylinder(0, 4, 5);
        for (int round = 0; round < 3; round++) {
            for (int i = 1; i <= 19; i++) {
                k.is(i, x.reading(0, 0, 0), "the same one again counts");
            }
            k.is(19, x.told(2), "one ahead of full");
            k.is(20, x.reading(200, 0, 20), "the last, with the greatest numbers");
            k.is(-4, x.reading(0, 0, 0), "FULL");
            k.is(20, x.told(2), "as it was");
            k.is(20, x.forget(), "All READINGS go");
            k.is(0, x.told(2), "none there");
            k.is(0, x.forget(), "none there");
        }
        k.is(-2, x.reading(-1, 0, 0), "t below");
        k.is(-2, x.reading(201, 0, 0), "t above");
        k.is(-2, x.reading(0, 0, -1), "x below");
        k.is(-2, x.reading(0, 0, 21), "x above ROOM");
    }

    /** A loaded CYLINDER of kind 0 with OIL, shut: what LEAK takes from it is all that happens to it. */
    private static int leaky(OilPush x, int oil) {
        int c = x.cylinder(0, 10, 10);
        Check.load(x, c, 10);
        x.fill(c, oil);
        return c;
    }

    private static void one(Check k, OilPush x, int cylinder, int leak, String what) {
        k.is(cylinder, x.leak(0), what + ", CYLINDER");
        k.is(leak, x.leak(1), what + ", LEAK");
    }

    private static void behindTicks(Check k) {
        k.part("behind t TICKS since START CYLINDER c had OIL x");
        OilPush x = Check.plant(0, 100);
        leaky(x, 90);
        x.tick(7);
        x.start();
        x.tick(3);
        int[] due = {90, 86, 82, 78};
        for (int t = 0; t <= 3; t++) {
            x.reading(t, 0, due[t]);
            one(k, x, 0, t == 0 ? 1 : 4, "up to " + t);
        }
        x.reading(2, 0, 82);
        one(k, x, 0, 4, "the same READING again");
        x.reading(2, 0, 81);
        one(k, x, NONE, NONE, "two READINGS that can't both be");
        x.forget();
        x.reading(3, 0, 78);
        x.reading(1, 0, 86);
        one(k, x, 0, 4, "READINGS in any order");
        x.forget();
        x.reading(0, 0, 89);
        one(k, x, NONE, NONE, "behind 0 TICKS no LEAK has lost any");
    }

    // ---- START, STATE

    private static void stateOfLeak(Check k) {
        k.part("STATE: no START, more than 200 TICKS since; a READING of a TICK that is not yet");
        OilPush x = Check.plant(0, 100);
        leaky(x, 90);
        one(k, x, -3, -3, "no START");
        x.tick(1);
        x.reading(0, 0, 90);
        one(k, x, -3, -3, "no START, but a TICK and a READING");
        x.start();
        one(k, x, 0, 1, "START");
        x.reading(1, 0, 85);
        one(k, x, -3, -3, "t is above how many there were");
        x.tick(0);
        one(k, x, -3, -3, "tick(0) is no TICK");
        x.forget();
        one(k, x, 0, 1, "a READING that is forgotten is not waited for");
        x.reading(1, 0, 85);
        x.tick(1);
        one(k, x, 0, 5, "t is how many there were");
        x.tick(199);
        one(k, x, 0, 5, "200 TICKS");
        x.reading(200, 0, 0);
        one(k, x, 0, 5, "a READING behind 200 TICKS");
        x.tick(1);
        one(k, x, -3, -3, "201 TICKS");
        k.is(-2, x.leak(2), "OUTSIDE ahead of STATE");
        k.is(-2, x.leak(-1), "OUTSIDE ahead of STATE");
        x.forget();
        one(k, x, -3, -3, "201 TICKS, no READING");
        k.is(1, x.start(), "START again");
        one(k, x, 0, 1, "TICKS are counted from 0 on");
    }

    private static void startAgain(Check k) {
        k.part("START is made by start(): what is then is kept");
        OilPush x = new OilPush();
        k.is(1, x.start(), "START with nothing there");
        one(k, x, NONE, NONE, "no CYLINDER");
        k.is(1, x.start(), "START on START");
        x = Check.plant(0, 100);
        leaky(x, 90);
        x.start();
        x.fill(0, 50);
        x.reading(0, 0, 90);
        one(k, x, 0, 1, "OIL of START");
        x.start();
        one(k, x, NONE, NONE, "OIL of the latest START");
        x.forget();
        x.reading(0, 0, 50);
        one(k, x, 0, 1, "OIL of the latest START");
        k.is(50, x.about(0, 3), "START changes no OIL");
    }

    // ---- ONE LEAK

    private static void whichCylinder(Check k) {
        k.part("of all CYLINDERS that are not HELD (by number)");
        for (int first = 0; first <= 6; first++) {
            OilPush x = Check.plant(0, 100);
            for (int c = 0; c < 6; c++) {
                x.cylinder(c >= first ? 0 : 1 + c % 2, 10, 10);
            }
            x.start();
            one(k, x, first < 6 ? first : NONE, first < 6 ? 1 : NONE, "the first not HELD is " + first);
        }
        OilPush x = Check.plant(0, 100);
        for (int c = 0; c < 6; c++) {
            x.cylinder(c == 2 ? 1 : 0, 10, 10);
            Check.load(x, c, 10);
            x.fill(c, 50);
        }
        x.start();
        x.tick(1);
        for (int c = 0; c < 6; c++) {
            x.forget();
            x.reading(1, c, 47);
            one(k, x, c == 2 ? NONE : c, c == 2 ? NONE : 3, "READING of " + c);
            x.reading(1, (c + 1) % 6, 50);
            one(k, x, c == 2 ? NONE : c, c == 2 ? NONE : 3, "and one that lost nothing");
            x.reading(1, (c + 2) % 6, 47);
            one(k, x, NONE, NONE, "two of them are not ONE LEAK");
        }
    }

    private static void whichLeak(Check k) {
        k.part("LEAKS 1 .. 20 (rising), the first with which");
        for (int lost = 0; lost <= 22; lost++) {
            OilPush x = Check.plant(0, 100);
            leaky(x, 60);
            x.start();
            x.tick(1);
            x.reading(1, 0, 60 - lost);
            boolean found = lost >= 1 && lost <= 20;
            one(k, x, found ? 0 : NONE, found ? lost : NONE, "it lost " + lost);
        }
        for (int oil = 36; oil <= 41; oil++) {
            OilPush x = Check.plant(0, 100);
            leaky(x, oil);
            x.start();
            x.tick(2);
            x.reading(2, 0, 0);
            boolean found = oil <= 40;
            one(k, x, found ? 0 : NONE, found ? (oil + 1) / 2 : NONE, "the first that takes all of " + oil);
        }
        OilPush x = Check.plant(0, 100);
        leaky(x, 0);
        x.start();
        x.tick(2);
        x.reading(2, 0, 0);
        one(k, x, 0, 1, "nothing to lose: any LEAK tells it");
    }

    private static void allLeaksNothing(Check k) {
        k.part("all else as it was at START (all LEAKS 0)");
        OilPush x = Check.plant(0, 100);
        leaky(x, 50);
        leaky(x, 50);
        x.rule(0, 2, 7);
        x.rule(1, 2, 9);
        x.start();
        x.tick(1);
        x.reading(1, 0, 43);
        one(k, x, 0, 7, "the first alone");
        x.reading(1, 1, 41);
        one(k, x, NONE, NONE, "both leak: not ONE");
        x.forget();
        x.reading(1, 0, 50);
        one(k, x, 1, 1, "LEAK of 0 is 0 in all trials of 1");
        k.is(7, x.rule(0, 2, 7), "LEAKS are not changed");
        k.is(9, x.rule(1, 2, 9), "LEAKS are not changed");
    }

    private static void startKeepsOilValvesBurst(Check k) {
        k.part("START keeps OIL, VALVES, BURST ones");
        OilPush x = Check.plant(4, 100);
        leaky(x, 50);
        leaky(x, 50);
        leaky(x, 50);
        x.valve(1, OUT);
        x.burst(2, true);
        x.rule(2, 1, 6);
        x.start();
        x.fill(0, 80);
        x.fill(1, 80);
        x.fill(2, 80);
        x.valve(0, OUT);
        x.valve(1, IN);
        x.burst(2, false);
        x.burst(0, true);
        x.tick(2);
        x.reading(2, 0, 44);
        x.reading(2, 1, 58);
        x.reading(2, 2, 38);
        one(k, x, 0, 3, "what was done by calls between TICKS is not reckoned with");
        k.is(0, x.about(0, 3), "the TICKS themselves did: it was BURST");
    }

    private static void startKeepsStore(Check k) {
        k.part("START keeps THE STORE");
        OilPush x = Check.plant(20, 100);
        x.store(20, 30, 2);
        x.tick(1);
        leaky(x, 50);
        int moved = x.cylinder(0, 1, 100);
        Check.load(x, moved, 37);
        x.rule(moved, 1, 5);
        x.valve(moved, OUT);
        x.pump(0, 0);
        x.start();
        x.tick(3);
        // PRESSURE 40, 37, 35: it gives 5, 5, nothing.
        k.is(10, x.about(moved, 3), "OIL behind three TICKS");
        x.reading(3, moved, 10);
        x.reading(3, 0, 47);
        one(k, x, 0, 1, "OIL in it");
        int[][] others = {{5000, 30, 2}, {10, 30, 2}, {20, 0, 2}, {20, 1000, 2}, {20, 30, 1}, {20, 30, 100}};
        for (int[] o : others) {
            k.is(1, x.store(o[0], o[1], o[2]), "another spring");
            one(k, x, 0, 1, "store(" + o[0] + ", " + o[1] + ", " + o[2] + ") behind START");
        }
        x.start();
        one(k, x, -3, -3, "a START with no TICK");
        x.tick(3);
        x.forget();
        x.reading(3, moved, 10);
        one(k, x, 0, 1, "PRESSURE 30 is too little");
        x.store(10, 1000, 1);
        one(k, x, 0, 1, "THE STORE of the latest START");
    }

    private static void startKeepsWaits(Check k) {
        k.part("START keeps the ORDER that waits; ORDERS are taken as they are now");
        OilPush x = Check.plant(0, 100);
        leaky(x, 50);
        leaky(x, 50);
        x.order(0, 0, 1, IN);
        x.rule(1, 1, 4);
        x.start();
        x.tick(1);
        x.reading(1, 0, 48);
        x.reading(1, 1, 46);
        one(k, x, 0, 2, "the ORDER waited at START");
        x.start();
        x.tick(1);
        x.forget();
        x.reading(1, 0, 48);
        x.reading(1, 1, 42);
        one(k, x, 0, 2, "its VALVE was turned at START");
        x.valve(1, SHUT);
        x.start();
        x.tick(1);
        x.forget();
        x.reading(1, 0, 48);
        x.reading(1, 1, 42);
        one(k, x, 0, 2, "an ORDER that is done is not done again");
        x.order(0, 0, 1, IN);
        one(k, x, NONE, NONE, "an ORDER that came since is done in trials");
        x.forget();
        x.reading(1, 0, 48);
        x.reading(1, 1, 38);
        one(k, x, 0, 2, "an ORDER that came since is done in trials");
        k.is(1, x.waits(), "no trial moves the ORDER that waits");
        k.is(SHUT, x.about(1, 6), "no trial turns a VALVE");
    }

    private static void ordersOfTrials(Check k) {
        k.part("ORDERS in trials wait for ends by the OIL of the trial");
        OilPush x = Check.plant(0, 100);
        leaky(x, 12);
        leaky(x, 50);
        x.rule(1, 1, 10);
        x.order(0, 2, 1, IN);
        x.start();
        x.tick(4);
        x.reading(4, 1, 30);
        one(k, x, 0, 6, "empty behind 2 TICKS: 10 less in the third and the fourth");
        x.forget();
        x.reading(4, 1, 20);
        one(k, x, 0, 12, "empty behind 1 TICK");
        x.forget();
        x.reading(4, 1, 40);
        one(k, x, 0, 4, "empty behind 3 TICKS");
        x.forget();
        x.reading(4, 1, 50);
        one(k, x, 0, 1, "not empty ahead of the fourth");
        k.is(0, x.waits(), "it waits");
    }

    private static void asNow(Check k) {
        k.part("all other numbers are taken as they are now");
        OilPush x = Check.plant(3, 100);
        leaky(x, 50);
        int moved = x.cylinder(0, 1, 100);
        Check.load(x, moved, 20);
        x.valve(moved, OUT);
        x.start();
        x.tick(2);
        x.reading(2, 0, 40);
        x.reading(2, moved, 6);
        one(k, x, 0, 5, "as it was");
        x.pump(0, 4);
        one(k, x, NONE, NONE, "Q");
        x.pump(0, 3);
        one(k, x, 0, 5, "Q");
        x.pump(1, 19);
        one(k, x, NONE, NONE, "R");
        x.pump(1, 20);
        one(k, x, 0, 5, "R");
        x.rule(moved, 0, 1);
        one(k, x, NONE, NONE, "CRACK");
        x.rule(moved, 0, 0);
        one(k, x, 0, 5, "CRACK");
        x.rule(moved, 1, 2);
        one(k, x, NONE, NONE, "FLOW");
        x.rule(moved, 1, 3);
        one(k, x, 0, 5, "FLOW");
        Check.load(x, moved, 21);
        one(k, x, NONE, NONE, "LOADS");
        Check.load(x, moved, 20);
        one(k, x, 0, 5, "LOADS");
        Check.load(x, 0, 0);
        one(k, x, NONE, NONE, "LOADS of the one that leaks");
    }

    private static OilPush read() {
        OilPush x = Check.plant(9, 40);
        leaky(x, 50);
        leaky(x, 30);
        x.store(100, 5, 3);
        x.rule(0, 2, 2);
        x.order(0, 2, 1, OUT);
        x.order(1, 1, 0, OUT);
        x.start();
        x.tick(4);
        x.reading(4, 0, 42);
        x.reading(2, 1, 30);
        return x;
    }

    private static void trialsChangeNothing(Check k) {
        k.part("leak() changes nothing");
        OilPush x = read();
        for (int i = 0; i < 3; i++) {
            one(k, x, 0, 2, "the same each time");
        }
        k.isTrue(Footprint.of(read()).equals(Footprint.of(x)), "all that can be asked is as without it");
        x = read();
        x.reading(1, 1, 0);
        OilPush y = read();
        y.reading(1, 1, 0);
        one(k, x, NONE, NONE, "none is found");
        k.isTrue(Footprint.of(y).equals(Footprint.of(x)), "all that can be asked is as without it");
    }

    private static void counted(Check k) {
        k.part("told: 0 CYLINDERS .. 5 that are empty");
        OilPush x = new OilPush();
        for (int what = 0; what < 6; what++) {
            k.is(0, x.told(what), "a new object, told(" + what + ")");
        }
        for (int c = 0; c < 6; c++) {
            x.cylinder(c % 3, 1, 2);
            k.is(c + 1, x.told(0), "CYLINDERS");
            k.is(c + 1, x.told(5), "empty");
            k.is(0, x.told(4), "full");
        }
        for (int c = 0; c < 6; c++) {
            x.fill(c, 1);
            k.is(5 - c, x.told(5), "neither full nor empty");
            k.is(0, x.told(4), "neither full nor empty");
        }
        for (int c = 0; c < 6; c++) {
            x.fill(c, 2);
            k.is(c + 1, x.told(4), "full");
            k.is(0, x.told(5), "empty");
        }
        k.is(-2, x.told(6), "told(6)");
        k.is(-2, x.told(-1), "told(-1)");
    }

    public static void main(String[] args) {
        Check k = new Check("OrderEdgesTest");
        thirtyEver(k);
        ends(k);
        turns(k);
        byOilAsItIsThen(k);
        waitsFor(k);
        twentyAtMost(k);
        behindTicks(k);
        stateOfLeak(k);
        startAgain(k);
        whichCylinder(k);
        whichLeak(k);
        allLeaksNothing(k);
        startKeepsOilValvesBurst(k);
        startKeepsStore(k);
        startKeepsWaits(k);
        ordersOfTrials(k);
        asNow(k);
        trialsChangeNothing(k);
        counted(k);
        k.end();
    }
}
