/** 'Terms' 2, sentence by sentence: what a TICK does where something is empty, full, shut, BURST, HELD, at THE LIMIT. */
public final class TickEdgesTest {
    private static final int SHUT = 0, OUT = 1, IN = 2;

    /** A CYLINDER of AREA 1 with one LOAD, so that its NEED is that. */
    private static int add(OilPush x, int stroke, int need, int flow, int valve) {
        int c = x.cylinder(0, 1, stroke);
        Check.load(x, c, need);
        x.rule(c, 1, flow);
        x.valve(c, valve);
        return c;
    }

    /** A plant whose STORE has oil, with Q 0: it got it in a TICK of its own. */
    private static OilPush stored(int oil, int cap, int first, int stiff, int r) {
        OilPush x = Check.plant(oil, 1000);
        x.store(cap, 0, 100);
        x.tick(1);
        x.store(cap, first, stiff);
        x.pump(0, 0);
        x.pump(1, r);
        return x;
    }

    // ---- (2)

    /** What a CYLINDER of a kind loses in a TICK that has FLOW 5, LEAK 3, a LOAD of 1. */
    private static void loses(Check k, int kind, boolean burst, int valve, int due) {
        for (int oil : new int[] {0, 1, 2, 3, 4, 5, 6, 40}) {
            OilPush x = Check.plant(0, 100);
            x.cylinder(kind, 4, 10);
            Check.load(x, 0, 1);
            x.rule(0, 1, 5);
            x.rule(0, 2, 3);
            x.burst(0, burst);
            x.valve(0, valve);
            x.fill(0, oil);
            x.tick(1);
            int lost = Math.min(oil, due);
            String with = "kind " + kind + ", VALVE " + valve + ", OIL " + oil;
            k.is(-lost, x.about(0, 9), "lost by " + with);
            k.is(oil - lost, x.about(0, 3), "left of " + with);
            k.gauges(x, 0, 0, 0, 0);
            k.sums(x, 0, 0, 0);
        }
    }

    private static void losses(Check k) {
        k.part("BURST: not HELD: it loses FLOW, or all OIL it has");
        for (int valve = SHUT; valve <= IN; valve++) {
            loses(k, 0, true, valve, 5);
        }
        k.part("BURST: HELD: nothing");
        for (int valve = SHUT; valve <= IN; valve++) {
            loses(k, 1, true, valve, 0);
            loses(k, 2, true, valve, 0);
        }
        k.part("Not BURST: VALVE 2: it loses FLOW or all it has");
        for (int kind = 0; kind < 3; kind++) {
            loses(k, kind, false, IN, 5);
        }
        k.part("VALVE 0, not HELD, LOAD above 0: it loses LEAK or all");
        loses(k, 0, false, SHUT, 3);
        loses(k, 1, false, SHUT, 0);
        loses(k, 2, false, SHUT, 0);
        k.part("VALVE 1: it loses nothing");
        for (int kind = 0; kind < 3; kind++) {
            loses(k, kind, false, OUT, 0);
        }
    }

    private static void leakAndLoad(Check k) {
        k.part("LOAD above 0: the LOAD at OIL as it is ahead of the loss");
        int[][] loads = {{0, 1}, {1, 0}, {0, 1}, {1, 0}, {0, 1}, {1, 0}, {0}, {1}};
        int[] oil = {5, 4, 4, 5, 10, 10, 10, 10};
        int[] lost = {2, 2, 0, 0, 2, 0, 0, 2};
        for (int i = 0; i < oil.length; i++) {
            OilPush x = Check.plant(0, 100);
            x.cylinder(0, 1, 10);
            Check.load(x, 0, loads[i]);
            x.rule(0, 2, 2);
            x.fill(0, oil[i]);
            x.tick(1);
            k.is(-lost[i], x.about(0, 9), "case " + i);
        }
        k.part("it loses LEAK, also where FLOW is less");
        OilPush x = Check.plant(0, 100);
        x.cylinder(0, 1, 10);
        Check.load(x, 0, 1);
        x.rule(0, 1, 1);
        x.rule(0, 2, 4);
        x.fill(0, 10);
        x.tick(1);
        k.is(6, x.about(0, 3), "OIL");
    }

    private static void eachByNumber(Check k) {
        k.part("Each CYLINDER: all six lose in one TICK, each its own");
        OilPush x = Check.plant(0, 100);
        int[] kinds = {0, 1, 0, 2, 0, 1};
        int[] valves = {IN, IN, SHUT, SHUT, OUT, IN};
        int[] lost = {10, 11, 3, 0, 14, 0};
        for (int c = 0; c < 6; c++) {
            x.cylinder(kinds[c], 5, 10);
            Check.load(x, c, 5);
            x.fill(c, 50);
            x.rule(c, 1, 10 + c);
            x.rule(c, 2, 3);
            x.valve(c, valves[c]);
            x.burst(c, c >= 4);
        }
        x.tick(1);
        for (int c = 0; c < 6; c++) {
            k.is(-lost[c], x.about(c, 9), "CYLINDER " + c);
            k.is(50 - lost[c], x.about(c, 3), "OIL of " + c);
        }
        x.valve(0, SHUT);
        x.rule(0, 2, 0);
        x.tick(1);
        k.is(0, x.about(0, 9), "LEAK 0 loses nothing");
    }

    // ---- (3)

    private static void whoMoves(Check k) {
        k.part("Those that MOVE: VALVE 1, not BURST, OIL below ROOM, NEED R at most");
        for (int kind = 0; kind < 3; kind++) {
            for (int valve = SHUT; valve <= IN; valve++) {
                for (int burst = 0; burst < 2; burst++) {
                    OilPush x = Check.plant(4, 10);
                    x.cylinder(kind, 2, 10);
                    x.valve(0, valve);
                    x.burst(0, burst == 1);
                    x.tick(1);
                    boolean moves = valve == OUT && burst == 0;
                    String with = "kind " + kind + ", VALVE " + valve + ", burst " + burst;
                    k.is(moves ? 4 : 0, x.about(0, 9), with);
                    k.gauges(x, moves ? 0 : 10, moves ? 0 : 4, 0, moves ? 1 : 0);
                }
            }
        }
        for (int kind = 0; kind < 3; kind++) {
            for (int oil = 18; oil <= 20; oil++) {
                OilPush x = Check.plant(4, 10);
                x.cylinder(kind, 2, 10);
                x.valve(0, OUT);
                x.fill(0, oil);
                x.tick(1);
                k.is(20 - oil, x.about(0, 9), "OIL " + oil + " of 20");
                k.is(20, x.about(0, 3), "full");
                k.gauges(x, 10, 4 - (20 - oil), 0, oil < 20 ? 1 : 0);
            }
        }
    }

    private static void atTheLimit(Check k) {
        k.part("NEED R at most");
        int[] kind = {0, 0, 0, 1, 1, 2, 2, 2, 0, 0, 2};
        int[] load = {20, 21, 19, 20, 21, 40, 41, 39, 10, 10, 40};
        int[] crack = {0, 0, 0, 0, 0, 0, 0, 0, 5, 6, 1};
        boolean[] moves = {true, false, true, true, false, true, false, true, true, false, false};
        for (int i = 0; i < kind.length; i++) {
            OilPush x = Check.plant(4, 10);
            x.cylinder(kind[i], 2, 10);
            Check.load(x, 0, load[i]);
            x.rule(0, 0, crack[i]);
            x.valve(0, OUT);
            x.tick(1);
            k.is(moves[i] ? 4 : 0, x.about(0, 9), "kind " + kind[i] + ", LOAD " + load[i] + ", CRACK " + crack[i]);
            k.is(moves[i] ? 0 : 4, x.gauge(1), "over THE LIMIT");
            x.pump(1, 9);
            x.fill(0, 0);
            x.tick(1);
            k.is(0, x.about(0, 9), "R one less than NEED: " + i);
        }
    }

    private static void theLeast(Check k) {
        k.part("each TAKES the least of FLOW, what is left of its ROOM, what is left of Q");
        int[][] flowRestQ = {{3, 4, 5}, {4, 3, 5}, {5, 4, 3}, {3, 3, 4}, {4, 3, 3}, {3, 4, 3}, {3, 3, 3}, {1, 9, 9},
            {9, 1, 9}, {9, 9, 1}, {9, 9, 0}};
        for (int[] f : flowRestQ) {
            OilPush x = Check.plant(f[2], 10);
            int c = add(x, 20, 7, f[0], OUT);
            x.fill(c, 20 - f[1]);
            x.tick(1);
            int due = Math.min(f[0], Math.min(f[1], f[2]));
            String with = "FLOW " + f[0] + ", rest " + f[1] + ", Q " + f[2];
            k.is(due, x.about(c, 9), with);
            k.is(20 - f[1] + due, x.about(c, 3), "OIL, " + with);
            k.gauges(x, f[2] > due ? 10 : due > 0 ? 7 : 0, f[2] - due, 0, due > 0 ? 1 : 0);
            k.is(due > 0 ? 0 : -1, x.mover(0), "mover(0), " + with);
        }
    }

    private static void inOrder(Check k) {
        k.part("By NEED, of like ones by number");
        int[][] needs = {{5, 4, 3, 2, 1, 0}, {0, 1, 2, 3, 4, 5}, {7, 7, 7, 7, 7, 7}, {3, 1, 3, 1, 3, 1},
            {2, 9, 2, 9, 0, 0}};
        int[][] order = {{5, 4, 3, 2, 1, 0}, {0, 1, 2, 3, 4, 5}, {0, 1, 2, 3, 4, 5}, {1, 3, 5, 0, 2, 4},
            {4, 5, 0, 2, 1, 3}};
        for (int i = 0; i < needs.length; i++) {
            for (int q = 0; q <= 60; q += 5) {
                OilPush x = Check.plant(q, 10);
                for (int c = 0; c < 6; c++) {
                    add(x, 100, needs[i][c], 10, OUT);
                }
                x.tick(1);
                int many = (q + 9) / 10;
                for (int j = 0; j < 6; j++) {
                    int c = order[i][j];
                    k.is(Math.max(0, Math.min(10, q - 10 * j)), x.about(c, 9), "what " + c + " TOOK of " + q);
                    k.is(j < many ? c : -1, x.mover(j), "mover(" + j + ") with Q " + q);
                }
                k.is(many, x.gauge(3), "how many TOOK any");
                k.is(many == 0 ? 0 : needs[i][order[i][many - 1]], x.gauge(0), "THE PRESSURE with Q " + q);
                k.is(-1, x.mover(6), "mover(6)");
                k.is(-1, x.mover(-1), "mover(-1)");
            }
        }
    }

    // ---- (4)

    private static void pressure(Check k) {
        k.part("THE PRESSURE is the greatest NEED of those that TOOK any; 0, if none did");
        OilPush x = Check.plant(10, 50);
        add(x, 100, 4, 10, OUT);
        add(x, 100, 40, 10, OUT);
        x.tick(1);
        k.gauges(x, 4, 0, 0, 1);
        x.pump(0, 11);
        x.tick(1);
        k.gauges(x, 40, 0, 0, 2);
        x.pump(0, 0);
        x.tick(1);
        k.gauges(x, 0, 0, 0, 0);
        x.pump(0, 5);
        Check.load(x, 0, 0);
        x.tick(1);
        k.gauges(x, 0, 0, 0, 1);
        k.sums(x, 10 * 36, 10 * 4 + 10 * 4 + 40, 10 * 4 + 11 * 40);
    }

    private static void overTheLimit(Check k) {
        k.part("What is left still goes over THE LIMIT: if it is above 0, THE PRESSURE is R");
        OilPush x = Check.plant(10, 50);
        add(x, 100, 4, 10, OUT);
        x.tick(1);
        k.gauges(x, 4, 0, 0, 1);
        k.sums(x, 0, 40, 40);
        x.pump(0, 11);
        x.tick(1);
        k.gauges(x, 50, 1, 0, 1);
        k.sums(x, 10 * 46 + 50, 80, 40 + 550);
        x.valve(0, SHUT);
        x.pump(0, 1);
        x.tick(1);
        k.gauges(x, 50, 1, 0, 0);
        k.sums(x, 460 + 50 + 50, 80, 40 + 550 + 50);
        k.part("if none MOVE, no STORE TAKES: all goes over");
        OilPush y = Check.plant(1000, 1000);
        y.tick(1);
        k.gauges(y, 1000, 1000, 0, 0);
        k.sums(y, 1000000, 0, 1000000);
    }

    private static void storeAndLimit(Check k) {
        k.part("if THE STORE's PRESSURE is R at most, it TAKES");
        for (int first = 19; first <= 21; first++) {
            OilPush x = Check.plant(6, 20);
            x.store(100, first, 1);
            x.tick(1);
            boolean takes = first <= 20;
            k.gauges(x, takes ? first : 20, takes ? 0 : 6, takes ? 6 : 0, 0);
            k.is(takes ? 6 : 0, x.sum(3), "OIL in THE STORE, FIRST " + first);
            k.is(takes ? first + 6 : first, x.sum(4), "its PRESSURE, FIRST " + first);
            k.sums(x, takes ? 0 : 120, 0, 6 * (takes ? first : 20));
        }
        k.part("its PRESSURE is looked at once, ahead of what it TAKES");
        OilPush x = Check.plant(6, 20);
        x.store(100, 15, 1);
        x.tick(1);
        k.gauges(x, 15, 0, 6, 0);
        k.is(21, x.sum(4), "above R now");
        x.tick(1);
        k.gauges(x, 20, 6, 0, 0);
        x.pump(1, 21);
        x.tick(1);
        k.gauges(x, 21, 0, 6, 0);
        k.is(27, x.sum(4), "R was its PRESSURE then");
    }

    private static void leftOfCap(Check k) {
        k.part("the least of that and of what is left of CAP");
        for (int cap = 0; cap <= 8; cap++) {
            OilPush x = Check.plant(6, 20);
            x.store(cap, 5, 1);
            x.tick(1);
            int took = Math.min(6, cap);
            k.gauges(x, cap >= 6 ? 5 : 20, 6 - took, took, 0);
            k.is(took, x.sum(3), "OIL, CAP " + cap);
            k.sums(x, cap >= 6 ? 0 : took * 15 + (6 - took) * 20, 0, 6 * (cap >= 6 ? 5 : 20));
            x.tick(1);
            int then = Math.min(6, cap - took);
            k.is(then, x.gauge(2), "what is left of CAP " + cap);
            k.is(6 - then, x.gauge(1), "over, CAP " + cap);
        }
    }

    private static void storesPressure(Check k) {
        k.part("if it TOOK any, THE PRESSURE is its (as it was ahead of that), if that is greater");
        for (int first = 6; first <= 9; first++) {
            OilPush x = Check.plant(10, 20);
            add(x, 100, 8, 7, OUT);
            x.store(100, first, 1);
            x.tick(1);
            int pressure = Math.max(8, first);
            k.gauges(x, pressure, 0, 3, 1);
            k.sums(x, 7 * (pressure - 8) + 3 * (pressure - first), 56, 10 * pressure);
        }
        k.part("it TOOK none: THE PRESSURE is not its");
        OilPush x = Check.plant(7, 20);
        add(x, 100, 8, 7, OUT);
        x.store(100, 19, 1);
        x.tick(1);
        k.gauges(x, 8, 0, 0, 1);
        x.pump(0, 0);
        x.tick(1);
        k.gauges(x, 0, 0, 0, 0);
        OilPush y = Check.plant(8, 20);
        add(y, 100, 8, 7, OUT);
        y.store(0, 19, 1);
        y.tick(1);
        k.gauges(y, 20, 1, 0, 1);
    }

    // ---- (5)

    private static void onlyIfNothingIsLeft(Check k) {
        k.part("If nothing was left of Q behind (3) (Q 0, too)");
        for (int q = 0; q <= 12; q++) {
            OilPush x = stored(30, 30, 50, 1, 100);
            add(x, 100, 0, 5, OUT);
            add(x, 100, 0, 5, OUT);
            x.pump(0, q);
            x.tick(1);
            boolean nothing = q <= 10;
            k.is(5, x.about(0, 9), "the first with Q " + q);
            k.is(5, x.about(1, 9), "the second with Q " + q);
            k.is(nothing ? q - 10 : 0, x.gauge(2), "from THE STORE with Q " + q);
            k.is(q > 10 ? q - 10 : 0, x.gauge(1), "over with Q " + q);
            k.is(nothing ? 20 + q : 30, x.sum(3), "OIL in THE STORE with Q " + q);
            k.is((Math.min(q, 10) + 4) / 5, x.gauge(3), "from THE PUMP with Q " + q);
        }
        // One that MOVES and TOOK too little, while something is left of Q, can only be full or at FLOW.
        OilPush x = stored(30, 40, 50, 1, 100);
        add(x, 100, 0, 5, OUT);
        x.pump(0, 6);
        x.tick(1);
        k.gauges(x, 80, 0, 1, 1);
    }

    private static void needOrMore(Check k) {
        k.part("if THE STORE's PRESSURE is then its NEED or more");
        for (int need = 19; need <= 22; need++) {
            OilPush x = stored(10, 10, 11, 1, 100);
            add(x, 100, need, 4, OUT);
            x.tick(1);
            k.is(need <= 21 ? 4 : 0, x.about(0, 9), "NEED " + need + ", PRESSURE 21");
            k.gauges(x, 0, 0, need <= 21 ? -4 : 0, 0);
            k.is(-1, x.mover(0), "none TOOK from THE PUMP");
        }
        k.part("then: as it is behind those ahead");
        for (int need = 16; need <= 18; need++) {
            OilPush x = stored(10, 10, 11, 1, 100);
            add(x, 100, need, 4, OUT);
            add(x, 100, 5, 4, OUT);
            x.tick(1);
            k.is(4, x.about(1, 9), "the lesser NEED is first");
            k.is(need <= 17 ? 4 : 0, x.about(0, 9), "NEED " + need + ", PRESSURE 17 then");
        }
        k.part("one that may not TAKE keeps none behind it from it");
        OilPush x = stored(10, 10, 0, 100, 100);
        add(x, 100, 1, 4, OUT);
        add(x, 100, 0, 4, OUT);
        x.tick(1);
        k.is(4, x.about(1, 9), "NEED 0, PRESSURE 0");
        k.is(0, x.about(0, 9), "NEED 1, PRESSURE 0");
    }

    private static void needOfThree(Check k) {
        k.part("its NEED (that of (3))");
        OilPush x = stored(50, 50, 20, 100, 100);
        x.cylinder(0, 1, 20);
        Check.load(x, 0, 10, 90);
        x.valve(0, OUT);
        x.pump(0, 10);
        x.tick(1);
        k.is(20, x.about(0, 9), "NEED was 10, though it is 90 behind what THE PUMP gave");
        k.gauges(x, 10, 0, -10, 1);
        OilPush y = stored(50, 50, 20, 100, 100);
        y.cylinder(0, 1, 20);
        Check.load(y, 0, 90, 10);
        y.valve(0, OUT);
        y.pump(0, 10);
        y.tick(1);
        k.is(10, y.about(0, 9), "NEED was 90, though it is 10 behind what THE PUMP gave");
        k.gauges(y, 90, 0, 0, 1);
    }

    private static void whatIsThere(Check k) {
        k.part("TAKES from THE STORE what it may still TAKE, or all OIL that is there");
        for (int oil = 0; oil <= 6; oil++) {
            OilPush x = stored(oil, 50, 20, 1, 100);
            add(x, 100, 3, 7, OUT);
            add(x, 100, 4, 7, OUT);
            x.pump(0, 3);
            x.tick(1);
            int first = Math.min(4, oil);
            k.is(3 + first, x.about(0, 9), "from PUMP and STORE, OIL " + oil);
            k.is(oil - first, x.about(1, 9), "from STORE alone, OIL " + oil);
            k.gauges(x, 3, 0, -oil, 1);
            k.is(0, x.sum(3), "nothing is there now");
            k.is(20, x.sum(4), "its PRESSURE is FIRST");
            k.is(0, x.mover(0), "mover(0)");
            k.is(-1, x.mover(1), "from THE STORE is no mover");
        }
        k.part("that has not TAKEN the least of FLOW and of its ROOM's rest");
        for (int rest = 1; rest <= 5; rest++) {
            OilPush x = stored(40, 50, 20, 1, 100);
            add(x, 100, 3, 4, OUT);
            x.fill(0, 100 - rest);
            x.pump(0, Math.min(rest, 4));
            x.tick(1);
            k.gauges(x, 3, 0, 0, 1);
            x.fill(0, 100 - rest);
            x.pump(0, Math.min(rest, 4) - 1);
            x.tick(1);
            k.is(Math.min(rest, 4), x.about(0, 9), "rest " + rest);
            k.is(-1, x.gauge(2), "just what it may still TAKE, rest " + rest);
        }
    }

    private static void onlyThoseOfThree(Check k) {
        k.part("each of (3): those that do not MOVE TAKE nothing from THE STORE");
        OilPush x = stored(40, 50, 90, 1, 20);
        add(x, 10, 21, 5, OUT);
        add(x, 10, 0, 5, SHUT);
        add(x, 10, 0, 5, IN);
        add(x, 10, 0, 5, OUT);
        add(x, 10, 0, 5, OUT);
        x.burst(3, true);
        x.fill(4, 10);
        x.tick(1);
        for (int c = 0; c < 5; c++) {
            k.is(0, x.about(c, 9), "CYLINDER " + c);
        }
        k.is(40, x.sum(3), "OIL in THE STORE");
        x.pump(1, 21);
        x.tick(1);
        k.is(5, x.about(0, 9), "now its NEED is R");
        k.is(35, x.sum(3), "also a PRESSURE above R gives");
    }

    private static void notChangedByThat(Check k) {
        k.part("THE PRESSURE, HEAT, WORK are not changed by that");
        OilPush x = stored(40, 50, 60, 1, 70);
        long heat = x.sum(0);
        long given = x.sum(2);
        add(x, 100, 3, 5, OUT);
        add(x, 100, 30, 5, OUT);
        x.pump(0, 2);
        x.tick(1);
        k.gauges(x, 3, 0, -8, 1);
        k.sums(x, heat, 6, given + 6);
        x.pump(0, 0);
        x.tick(1);
        k.gauges(x, 0, 0, -10, 0);
        k.sums(x, heat, 6, given + 6);
    }

    // ---- HEAT, WORK, GIVEN

    private static void balance(Check k) {
        k.part("HEAT, WORK, GIVEN of all parts in one TICK");
        OilPush x = Check.plant(30, 50);
        add(x, 100, 10, 6, OUT);
        add(x, 100, 40, 7, OUT);
        x.store(12, 20, 1);
        x.tick(1);
        k.gauges(x, 50, 5, 12, 2);
        k.sums(x, 6 * 40 + 7 * 10 + 12 * 30 + 5 * 50, 60 + 280, 1500);
        k.part("Q 0: nothing grows");
        x.pump(0, 0);
        x.tick(200);
        k.sums(x, 6 * 40 + 7 * 10 + 12 * 30 + 5 * 50, 60 + 280, 1500);
    }

    private static void beyondInts(Check k) {
        k.part("long HEAT, WORK, GIVEN");
        OilPush x = Check.plant(1000, 1000);
        for (int i = 1; i <= 15; i++) {
            x.tick(200);
            k.sums(x, i * 200_000_000L, 0, i * 200_000_000L);
        }
        OilPush y = Check.plant(1000, 1000);
        y.cylinder(0, 100, 100);
        Check.load(y, 0, 100000);
        y.valve(0, OUT);
        for (int i = 0; i < 220; i++) {
            y.tick(10);
            y.fill(0, 0);
        }
        k.sums(y, 0, 2_200_000_000L, 2_200_000_000L);
    }

    // ---- what is told of the latest TICK

    private static void latest(Check k) {
        k.part("about 9, gauge, mover: of the latest TICK");
        OilPush x = Check.plant(5, 50);
        k.is(-3, x.gauge(0), "there was none");
        k.is(0, x.tick(0), "no TICK is done");
        k.is(-3, x.gauge(0), "there was none");
        add(x, 8, 4, 1000, OUT);
        k.is(0, x.about(0, 9), "no TICK yet");
        x.tick(1);
        k.is(5, x.about(0, 9), "TOOK");
        x.tick(1);
        k.is(3, x.about(0, 9), "the latest alone");
        x.tick(1);
        k.is(0, x.about(0, 9), "full: it TOOK nothing");
        k.is(-1, x.mover(0), "no mover");
        x.valve(0, IN);
        x.rule(0, 1, 3);
        x.tick(3);
        k.is(-2, x.about(0, 9), "the last of three");
        x.valve(0, OUT);
        x.tick(1);
        add(x, 8, 4, 1000, OUT);
        k.is(0, x.about(1, 9), "it came behind the latest TICK");
        k.is(3, x.about(0, 9), "of the latest TICK");
        x.fill(0, 0);
        x.valve(0, SHUT);
        x.pump(1, 1);
        x.start();
        k.is(3, x.about(0, 9), "calls change nothing of it");
        k.gauges(x, 50, 2, 0, 1);
        k.is(0, x.mover(0), "mover(0)");
    }

    private static void howMany(Check k) {
        k.part("tick: 0 .. 200; STATE: there would be more than 100000");
        OilPush x = new OilPush();
        k.is(0, x.tick(0), "none");
        k.is(-2, x.tick(201), "too many");
        k.is(-2, x.tick(-1), "too few");
        k.is(200, x.tick(200), "the most");
        k.is(200, x.tick(0), "how many there were ever");
        k.is(1, x.start(), "START");
        k.is(0, x.tick(0), "how many there were since");
        OilPush y = new OilPush();
        y.pump(0, 1);
        for (int i = 1; i <= 499; i++) {
            y.tick(200);
        }
        k.is(99999, y.tick(199), "all but one");
        k.is(-3, y.tick(200), "there would be more");
        k.is(-3, y.tick(2), "there would be 100001");
        k.is(99999, y.told(3), "none of them is done");
        k.is(9999900, y.sum(0), "none of them is done");
        k.is(100000, y.tick(1), "the last one");
        k.is(-3, y.tick(1), "one more");
        k.is(10000000, y.sum(0), "it is not done");
        k.is(-2, y.tick(-1), "OUTSIDE ahead of STATE");
        k.is(100000, y.tick(0), "none more");
    }

    public static void main(String[] args) {
        Check k = new Check("TickEdgesTest");
        losses(k);
        leakAndLoad(k);
        eachByNumber(k);
        whoMoves(k);
        atTheLimit(k);
        theLeast(k);
        inOrder(k);
        pressure(k);
        overTheLimit(k);
        storeAndLimit(k);
        leftOfCap(k);
        storesPressure(k);
        onlyIfNothingIsLeft(k);
        needOrMore(k);
        needOfThree(k);
        whatIsThere(k);
        onlyThoseOfThree(k);
        notChangedByThat(k);
        balance(k);
        beyondInts(k);
        latest(k);
        howMany(k);
        k.end();
    }
}
