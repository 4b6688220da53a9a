import java.util.ArrayList;
import java.util.List;
import java.util.Random;

/**
 * ONE LEAK by its own words, with no second writing of a TICK: leak() answers the first LEAK with which a new object,
 * made by the same calls and ticked as often, has the OIL of all READINGS. The seeds are fixed.
 */
public final class ReplayTest {
    private static final int MOST_TICKS = 12;

    private final Check k = new Check("ReplayTest");
    private int found;
    private int notTheFirst;
    private int none;

    private static int upTo(Random random, int most) {
        return random.nextInt(most + 1);
    }

    /** The plant of a seed as it is at START, all LEAKS 0: the same calls each time. */
    private static OilPush atStart(int seed) {
        Random random = new Random(seed);
        OilPush x = Check.plant(upTo(random, 12), 1 + upTo(random, 40));
        int parts = 2 + upTo(random, 2);
        for (int c = 0; c < parts; c++) {
            x.cylinder(upTo(random, 3) == 0 ? 1 + upTo(random, 1) : 0, 1 + upTo(random, 9), 1 + upTo(random, 9));
            Check.load(x, c, random.ints(1 + upTo(random, 2), 0, 300).toArray());
            x.rule(c, 1, 1 + upTo(random, 9));
            x.fill(c, upTo(random, x.about(c, 1) * x.about(c, 2)));
            x.valve(c, upTo(random, 2) == 0 ? 1 + upTo(random, 1) : 0);
            x.burst(c, upTo(random, 9) == 0);
        }
        x.store(upTo(random, 30), upTo(random, 20), 1 + upTo(random, 3));
        for (int i = upTo(random, 3); i > 0; i--) {
            x.order(upTo(random, parts - 1), upTo(random, 2), upTo(random, parts - 1), upTo(random, 2));
        }
        x.tick(upTo(random, 3));
        x.start();
        return x;
    }

    /** READINGS of a run with a LEAK that may be beyond those tried; now and then one is off by 1. */
    private static List<int[]> readings(int seed) {
        Random random = new Random(-1 - seed);
        OilPush x = atStart(seed);
        int parts = x.told(0);
        x.rule(upTo(random, parts - 1), 2, upTo(random, 22));
        List<int[]> readings = new ArrayList<>();
        for (int t = 1; t <= MOST_TICKS; t++) {
            x.tick(1);
            if (upTo(random, 2) == 0) {
                int c = upTo(random, parts - 1);
                int off = upTo(random, 15) == 0 && x.about(c, 3) > 0 ? -1 : 0;
                readings.add(new int[] {t, c, x.about(c, 3) + off});
            }
        }
        return readings;
    }

    private static boolean tells(int seed, List<int[]> readings, int c, int leak) {
        OilPush x = atStart(seed);
        x.rule(c, 2, leak);
        for (int t = 0; t <= MOST_TICKS; t++) {
            for (int[] r : readings) {
                if (r[0] == t && x.about(r[1], 3) != r[2]) {
                    return false;
                }
            }
            x.tick(1);
        }
        return true;
    }

    /** The CYLINDER times 100 and the LEAK, or NONE. */
    private static int first(int seed, List<int[]> readings) {
        OilPush x = atStart(seed);
        for (int c = 0; c < x.told(0); c++) {
            for (int leak = 1; x.about(c, 0) == 0 && leak <= 20; leak++) {
                if (tells(seed, readings, c, leak)) {
                    return c * 100 + leak;
                }
            }
        }
        return OilPush.NONE;
    }

    private void run(int seed) {
        k.part("seed " + seed);
        List<int[]> readings = readings(seed);
        int due = first(seed, readings);
        OilPush x = atStart(seed);
        // What leaks while they are read is nothing to the trials.
        x.rule(seed % x.told(0), 2, 1 + seed % 100);
        x.tick(MOST_TICKS);
        for (int[] r : readings) {
            x.reading(r[0], r[1], r[2]);
        }
        k.is(due < 0 ? due : due / 100, x.leak(0), "leak(0)");
        k.is(due < 0 ? due : due % 100, x.leak(1), "leak(1)");
        none += due < 0 ? 1 : 0;
        found += due > 0 ? 1 : 0;
        notTheFirst += due > 1 ? 1 : 0;
    }

    public static void main(String[] args) {
        ReplayTest t = new ReplayTest();
        for (int seed = 0; seed < 1500; seed++) {
            t.run(seed);
        }
        t.k.part("sorts of runs");
        t.k.isTrue(t.found > 100, "a LEAK was found in " + t.found);
        t.k.isTrue(t.notTheFirst > 100, "one that is not the very first tried in " + t.notTheFirst);
        t.k.isTrue(t.none > 100, "none was found in " + t.none);
        t.k.end();
    }
}
