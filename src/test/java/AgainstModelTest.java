import java.util.ArrayList;
import java.util.Arrays;
import java.util.List;
import java.util.Random;

/** Runs of at most 512 random calls, each answer held against Model's. The seeds are fixed: all runs are the same. */
public final class AgainstModelTest {
    private static final String[] NAMES = {"pump", "cylinder", "rule", "loads", "valve", "fill", "burst", "store",
        "about", "tick", "gauge", "mover", "sum", "order", "waits", "start", "reading", "forget", "leak", "sheet",
        "lose", "put", "cell", "copy", "tell", "look", "as", "trace", "fault", "told"};
    private static final int[] TAKES = {2, 3, 3, 5, 2, 2, 2, 3, 2, 1, 1, 1, 1, 4, 0, 0, 3, 0, 1, 3, 1, 3, 3, 5, 1, 1,
        2, 0, 0, 1};
    private static final int PUMP = 0, CYLINDER = 1, RULE = 2, LOADS = 3, VALVE = 4, FILL = 5, BURST = 6, STORE = 7,
        ABOUT = 8, TICK = 9, GAUGE = 10, MOVER = 11, SUM = 12, ORDER = 13, WAITS = 14, START = 15, READING = 16,
        FORGET = 17, LEAK = 18, SHEET = 19, PUT = 21, CELL = 22, TOLD = 29;

    private final Random random;
    private final long seed;
    private final OilPush x = new OilPush();
    private final Model model = new Model();
    private final List<String> rows = new ArrayList<>();
    private int calls;
    private boolean wrong;

    private AgainstModelTest(long seed) {
        this.seed = seed;
        random = new Random(seed);
    }

    private static long answer(OilPush x, int f, int[] a) {
        switch (f) {
            case 0: return x.pump(a[0], a[1]);
            case 1: return x.cylinder(a[0], a[1], a[2]);
            case 2: return x.rule(a[0], a[1], a[2]);
            case 3: return x.loads(a[0], a[1], a[2], a[3], a[4]);
            case 4: return x.valve(a[0], a[1]);
            case 5: return x.fill(a[0], a[1]);
            case 6: return x.burst(a[0], a[1] != 0);
            case 7: return x.store(a[0], a[1], a[2]);
            case 8: return x.about(a[0], a[1]);
            case 9: return x.tick(a[0]);
            case 10: return x.gauge(a[0]);
            case 11: return x.mover(a[0]);
            case 12: return x.sum(a[0]);
            case 13: return x.order(a[0], a[1], a[2], a[3]);
            case 14: return x.waits();
            case 15: return x.start();
            case 16: return x.reading(a[0], a[1], a[2]);
            case 17: return x.forget();
            case 18: return x.leak(a[0]);
            case 19: return x.sheet(a[0], a[1], a[2]);
            case 20: return x.lose(a[0]);
            case 21: return x.put(a[0], a[1], a[2]);
            case 22: return x.cell(a[0], a[1], a[2]);
            case 23: return x.copy(a[0], a[1], a[2], a[3], a[4]);
            case 24: return x.tell(a[0]);
            case 25: return x.look(a[0]);
            case 26: return x.as(a[0], a[1]);
            case 27: return x.trace();
            case 28: return x.fault();
            default: return x.told(a[0]);
        }
    }

    private long call(int f, int... a) {
        if (wrong || calls == 512) {
            return 0;
        }
        calls++;
        long want = model.answer(f, a);
        long got = answer(x, f, a);
        rows.add(NAMES[f] + Arrays.toString(a) + " -> " + got);
        if (got != want) {
            wrong = true;
            System.out.println("seed " + seed + ": the last of these rows is wrong, due is " + want);
            rows.forEach(r -> System.out.println("  " + r));
        }
        return got;
    }

    private int upTo(int most) {
        return random.nextInt(most + 1);
    }

    private boolean once(int in) {
        return random.nextInt(in) == 0;
    }

    /** Mostly a number from .. to; now and then one of its edges, or far off. */
    private int about(int from, int to) {
        if (once(25)) {
            int[] odd = {from - 1, to + 1, from, to, -1, Integer.MIN_VALUE, Integer.MAX_VALUE};
            return odd[random.nextInt(odd.length)];
        }
        return from + random.nextInt(to - from + 1);
    }

    private int number() {
        int[] bits = {1, 3, 6, 8, 10, 16, 17, 31, 32};
        int b = bits[random.nextInt(bits.length)];
        return b == 32 ? random.nextInt() : upTo((int) ((1L << b) - 2));
    }

    private int part() {
        return about(0, Math.max(0, model.now.parts.size() - 1));
    }

    private void setUp() {
        int parts = 1 + upTo(5);
        for (int c = 0; c < parts; c++) {
            call(CYLINDER, upTo(2), 1 + upTo(9), 1 + upTo(once(4) ? 99 : 9));
            newLoads(c);
            if (once(2)) call(RULE, c, 1, 1 + upTo(20));
            if (once(3)) call(RULE, c, 0, upTo(20));
            if (once(2)) call(FILL, c, upTo(model.now.parts.get(c).room()));
            call(VALVE, c, upTo(2));
        }
        call(PUMP, 0, upTo(once(3) ? 200 : 30));
        call(PUMP, 1, 1 + upTo(once(3) ? 200 : 40));
        if (once(2)) call(STORE, upTo(200), upTo(30), 1 + upTo(9));
        for (int i = upTo(6); i > 0; i--) {
            call(ORDER, part(), upTo(2), part(), upTo(2));
        }
    }

    private void newLoads(int c) {
        int n = 1 + upTo(once(3) ? 9 : 3);
        call(SHEET, 0, 2, n);
        for (int i = 0; i < n; i++) {
            call(PUT, 0, i, once(4) ? 0 : upTo(once(8) ? 100000 : 200));
        }
        call(LOADS, c, 0, 2, 0, n);
    }

    private void ask() {
        for (int what = 0; what < 4; what++) call(GAUGE, what);
        for (int what = 0; what < 5; what++) call(SUM, what);
        for (int i = 0; i < 2; i++) call(MOVER, upTo(6));
        for (int i = 0; i < 3; i++) call(ABOUT, part(), about(0, 9));
        call(WAITS);
        call(TOLD, upTo(6));
    }

    private void change() {
        switch (upTo(7)) {
            case 0: call(VALVE, part(), about(0, 2)); break;
            case 1: call(FILL, part(), about(0, 60)); break;
            case 2: call(BURST, part(), upTo(1)); break;
            case 3: call(STORE, about(0, 300), about(0, 30), about(1, 10)); break;
            case 4: call(PUMP, about(0, 1), about(1, 60)); break;
            case 5: call(RULE, part(), 1, about(1, 30)); break;
            case 6: call(ORDER, part(), about(0, 2), part(), about(0, 2)); break;
            default: call(RULE, part(), 2, about(0, 20)); break;
        }
    }

    /** A plant that works, with calls between the TICKS. */
    private void plantRun() {
        setUp();
        while (calls < 480 && !wrong) {
            call(TICK, once(6) ? about(0, 200) : 1 + upTo(2));
            ask();
            while (once(2)) change();
            if (once(12)) newLoads(upTo(model.now.parts.size() - 1));
        }
    }

    /** A plant with one LEAK and READINGS that are mostly true, so that ONE LEAK is often found. */
    private void leakRun() {
        setUp();
        if (once(3)) call(TICK, upTo(5));
        call(START);
        while (calls < 480 && !wrong) {
            int leaking = upTo(model.now.parts.size() - 1);
            call(RULE, leaking, 2, upTo(22));
            for (int i = 1 + upTo(4); i > 0; i--) {
                call(TICK, 1 + upTo(once(8) ? 60 : 2));
                for (int j = upTo(2); j > 0; j--) {
                    int c = upTo(model.now.parts.size() - 1);
                    int off = once(20) ? 1 : 0;
                    call(READING, model.ticks, c, model.now.parts.get(c).oil + off);
                }
                if (once(10)) change();
            }
            call(LEAK, 0);
            call(LEAK, 1);
            call(RULE, leaking, 2, 0);
            for (int c = 0; c < model.now.parts.size(); c++) call(ABOUT, c, 3);
            if (once(3)) call(FORGET);
            if (once(3)) call(START);
            if (once(6)) call(CYLINDER, upTo(2), 1 + upTo(5), 1 + upTo(5));
            if (once(6)) change();
        }
    }

    /** Any call with any numbers. */
    private void wildRun() {
        while (calls < 512 && !wrong) {
            int f = random.nextInt(NAMES.length);
            if (f == LEAK && !once(4)) f = CELL;
            int[] a = new int[TAKES[f]];
            for (int i = 0; i < a.length; i++) {
                a[i] = once(6) ? number() : once(10) ? -number() : about(0, once(3) ? 20 : 3);
            }
            call(f, a);
        }
    }

    public static void main(String[] args) {
        int runs = 1500;
        int off = 0;
        long calls = 0;
        for (int seed = 0; seed < runs && off < 3; seed++) {
            AgainstModelTest run = new AgainstModelTest(seed);
            if (seed % 3 == 0) run.plantRun();
            if (seed % 3 == 1) run.leakRun();
            if (seed % 3 == 2) run.wildRun();
            off += run.wrong ? 1 : 0;
            calls += run.calls;
        }
        System.out.println("AgainstModelTest: " + calls + " calls, " + off + " runs wrong");
        if (off != 0) {
            System.exit(1);
        }
    }
}
