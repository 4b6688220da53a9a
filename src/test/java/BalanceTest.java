import java.util.Random;

/**
 * What holds in any TICK whatever the plant, reckoned from the answers alone and not from a second writing of a TICK:
 * where the OIL goes, and the books of HEAT, WORK and GIVEN. The seeds are fixed.
 */
public final class BalanceTest {
    private final Check k = new Check("BalanceTest");
    private Random random;
    private OilPush x;
    private int parts;
    private int q;
    private int limit;

    // As it was ahead of the TICK.
    private final int[] oil = new int[6];
    private long inStore;
    private long storePressure;
    private final long[] sums = new long[3];

    // How many TICKS there were of each sort: the rows would say little if one sort never came.
    private int storeGave;
    private int storeTook;
    private int wentOver;
    private int severalTook;

    private int upTo(int most) {
        return random.nextInt(most + 1);
    }

    private void setUp() {
        limit = 1 + upTo(60);
        x = Check.plant(0, limit);
        parts = 1 + upTo(5);
        for (int c = 0; c < parts; c++) {
            x.cylinder(upTo(2), 1 + upTo(9), 1 + upTo(19));
            Check.load(x, c, random.ints(1 + upTo(2), 0, 300).toArray());
            x.rule(c, 0, upTo(1) * upTo(20));
            x.rule(c, 1, 1 + upTo(30));
            x.rule(c, 2, upTo(5));
            x.fill(c, upTo(room(c)));
            x.valve(c, upTo(1) == 0 ? 1 : upTo(2));
            x.burst(c, upTo(5) == 0);
        }
        x.store(upTo(150), upTo(40), 1 + upTo(5));
    }

    private int room(int c) {
        return x.about(c, 1) * x.about(c, 2);
    }

    private void keep() {
        for (int c = 0; c < parts; c++) {
            oil[c] = x.about(c, 3);
        }
        for (int what = 0; what < sums.length; what++) {
            sums[what] = x.sum(what);
        }
        inStore = x.sum(3);
        storePressure = x.sum(4);
    }

    private void oilIsTold() {
        k.part("OIL");
        for (int c = 0; c < parts; c++) {
            int took = x.about(c, 9);
            k.is(oil[c] + took, x.about(c, 3), "OIL is what it was and what it TOOK");
            k.isTrue(x.about(c, 3) >= 0 && x.about(c, 3) <= room(c), "OIL is 0 .. ROOM");
            boolean out = x.about(c, 6) == 1 && x.about(c, 8) == 0;
            k.isTrue(out ? took >= 0 : took <= 0, "VALVE out, hose whole: it may TAKE; else it may lose");
        }
        k.is(inStore + x.gauge(2), x.sum(3), "OIL in THE STORE is what it was and what it TOOK");
        k.isTrue(x.sum(3) >= 0, "THE STORE never lacks OIL");
    }

    private void pumpIsTold() {
        k.part("Q is all TAKEN, or goes over THE LIMIT");
        int taken = 0;
        for (int c = 0; c < parts; c++) {
            taken += Math.max(0, x.about(c, 9));
        }
        k.is(q, taken + x.gauge(2) + x.gauge(1), "what all TOOK, THE STORE too, and what went over");
        k.isTrue(x.gauge(1) >= 0, "over THE LIMIT");
        k.isTrue(x.gauge(1) == 0 || x.gauge(0) == limit, "over THE LIMIT: at R");
        k.isTrue(x.gauge(0) >= 0 && x.gauge(0) <= limit, "THE PRESSURE is R at most");
        for (int i = 0; i < x.gauge(3); i++) {
            k.isTrue(x.about(x.mover(i), 9) > 0, "one that TOOK from THE PUMP TOOK");
        }
        k.is(OilPush.UNKNOWN, x.mover(x.gauge(3)), "none behind the last");
    }

    private void booksBalance() {
        k.part("HEAT, WORK, GIVEN");
        long heat = x.sum(0) - sums[0];
        long work = x.sum(1) - sums[1];
        long given = x.sum(2) - sums[2];
        long stored = Math.max(0, x.gauge(2)) * storePressure;
        k.is((long) q * x.gauge(0), given, "GIVEN");
        k.is(given, heat + work + stored, "GIVEN is HEAT, WORK and what THE STORE TOOK at its PRESSURE as it was");
        k.isTrue(heat >= 0 && work >= 0, "neither shrinks");
    }

    private void countSorts() {
        storeGave += x.gauge(2) < 0 ? 1 : 0;
        storeTook += x.gauge(2) > 0 ? 1 : 0;
        wentOver += x.gauge(1) > 0 ? 1 : 0;
        severalTook += x.gauge(3) > 1 ? 1 : 0;
    }

    private void allSortsCame() {
        k.part("sorts of TICKS");
        k.isTrue(storeGave > 100, "THE STORE gave in " + storeGave);
        k.isTrue(storeTook > 100, "THE STORE TOOK in " + storeTook);
        k.isTrue(wentOver > 100, "some went over THE LIMIT in " + wentOver);
        k.isTrue(severalTook > 100, "more than one TOOK in " + severalTook);
    }

    private void run(int seed) {
        random = new Random(seed);
        setUp();
        // Some 100 calls set up and 100 ask behind each TICK: three TICKS stay under the 512 calls.
        for (int i = 0; i < 3; i++) {
            // Much, then little: THE STORE can give only where it could TAKE.
            q = upTo(i == 0 ? 100 : 20);
            x.pump(0, q);
            keep();
            x.tick(1);
            oilIsTold();
            pumpIsTold();
            booksBalance();
            countSorts();
        }
    }

    public static void main(String[] args) {
        BalanceTest t = new BalanceTest();
        for (int seed = 0; seed < 2000; seed++) {
            t.run(seed);
        }
        t.allSortsCame();
        t.k.end();
    }
}
