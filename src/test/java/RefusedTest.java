import java.util.ArrayList;
import java.util.List;

/**
 * The first part of 'Terms', for every call: of several REFUSALS and FAULTS the first that the call's line tells is
 * answered, and nothing changes but fault(), of a call that names FAULTS. Each call is made with every set of its
 * defects, and all that can be asked behind it is held against an object that was not called.
 */
public final class RefusedTest {
    private static final int MIN = Integer.MIN_VALUE, MAX = Integer.MAX_VALUE;
    private static final int UNKNOWN = -1, OUTSIDE = -2, STATE = -3, FULL = -4;
    private static final int NULL = -11, CAST = -12, INDEX = -13, SIZE = -14;
    private static final int TAKEN = 0;

    private interface Call {
        long on(OilPush x, int[] a);
    }

    private interface Made {
        OilPush anew();
    }

    /** Number at of a call's numbers becomes value, and the call is due to answer so. */
    private record Defect(int at, int value, int answer) {
    }

    /** Calls of one name from one state; last is what comes behind all defects: TAKEN, or a refusal of the state. */
    private static final class Line {
        private final Check k;
        private final Made state;
        private final String name;
        private final Call call;
        private final int[] good;
        private final List<Defect> defects = new ArrayList<>();
        private boolean namesFaults;
        private boolean answersLong;
        private int last = TAKEN;

        Line(Check k, Made state, String name, Call call, int... good) {
            this.k = k;
            this.state = state;
            this.name = name;
            this.call = call;
            this.good = good;
        }

        /** Defects are told in the order of the call's line. */
        Line bad(int answer, int at, int... values) {
            for (int v : values) {
                defects.add(new Defect(at, v, answer));
            }
            return this;
        }

        Line namingFaults() {
            namesFaults = true;
            return this;
        }

        Line answeringLong() {
            answersLong = true;
            return this;
        }

        Line behindAll(int answer) {
            last = answer;
            return this;
        }

        void hold() {
            k.part(name);
            List<Long> untouched = Footprint.of(state.anew());
            pick(0, good, new boolean[good.length], last, untouched);
        }

        private void pick(int from, int[] a, boolean[] used, int due, List<Long> untouched) {
            ask(a, due, untouched);
            for (int i = from; i < defects.size(); i++) {
                Defect d = defects.get(i);
                if (!used[d.at]) {
                    int[] b = a.clone();
                    boolean[] now = used.clone();
                    b[d.at] = d.value;
                    now[d.at] = true;
                    // They are picked in the order told: the first one stays the one that is due.
                    pick(i + 1, b, now, from == 0 ? d.answer : due, untouched);
                }
            }
        }

        private void ask(int[] a, int due, List<Long> untouched) {
            OilPush x = state.anew();
            int was = x.fault();
            long got = call.on(x, a);
            String text = text(a);
            if (due == TAKEN) {
                k.isTrue(got >= 0, text + " is taken, it answered " + got);
                return;
            }
            int fault = due <= NULL ? -10 - due : 0;
            k.is(answersLong ? Long.MIN_VALUE : due, got, text);
            k.is(namesFaults ? fault : was, x.fault(), "fault() behind " + text);
            k.isTrue(untouched.equals(Footprint.of(x)), text + " changed nothing");
        }

        private String text(int[] a) {
            StringBuilder b = new StringBuilder(name).append('(');
            for (int i = 0; i < a.length; i++) {
                b.append(i == 0 ? "" : ", ").append(a[i]);
            }
            return b.append(')').toString();
        }
    }

    /** The test's own ground: each call that changes something changes the footprint, too. */
    private static void footprintSees(Check k) {
        k.part("the footprint");
        List<Long> untouched = Footprint.of(working());
        k.isTrue(untouched.equals(Footprint.of(working())), "it is the same for the same calls");
        Call[] changes = {(x, a) -> x.pump(0, 8), (x, a) -> x.pump(1, 61), (x, a) -> x.cylinder(0, 1, 1),
            (x, a) -> x.rule(3, 0, 1), (x, a) -> x.rule(3, 1, 999), (x, a) -> x.rule(3, 2, 1),
            (x, a) -> x.loads(0, 2, 2, 5, 2), (x, a) -> x.loads(0, 2, 2, 6, 3), (x, a) -> x.valve(2, 2),
            (x, a) -> x.fill(2, 49), (x, a) -> x.burst(3, false), (x, a) -> x.store(41, 5, 2),
            (x, a) -> x.store(40, 6, 2), (x, a) -> x.store(40, 5, 1), (x, a) -> x.tick(1),
            (x, a) -> x.order(0, 0, 0, 0), (x, a) -> x.start(), (x, a) -> x.reading(3, 0, 14),
            (x, a) -> x.forget(), (x, a) -> x.sheet(2, 2, 20), (x, a) -> x.sheet(3, 0, 0),
            (x, a) -> x.sheet(0, 1, 3), (x, a) -> x.lose(2), (x, a) -> x.put(2, 19, 1),
            (x, a) -> x.copy(2, 0, 2, 19, 1), (x, a) -> x.tell(0), (x, a) -> x.look(0)};
        for (int i = 0; i < changes.length; i++) {
            OilPush x = working();
            k.isTrue(changes[i].on(x, new int[0]) >= 0, "change " + i + " is taken");
            k.isTrue(!untouched.equals(Footprint.of(x)), "change " + i + " is seen");
        }
    }

    // ---- states

    private static OilPush empty() {
        return new OilPush();
    }

    /** Four CYLINDERS at work behind a START; SHEET 0 bytes, 1 shorts, 2 twenty ints, 3 nothing; a FAULT stands. */
    private static OilPush working() {
        OilPush x = new OilPush();
        int[] kinds = {0, 1, 2, 0};
        for (int c = 0; c < 4; c++) {
            x.cylinder(kinds[c], 3 + c, 10);
        }
        sheets(x);
        x.loads(0, 2, 2, 5, 3);
        x.loads(1, 2, 2, 6, 2);
        x.pump(0, 9);
        x.pump(1, 60);
        x.store(40, 5, 2);
        x.fill(0, 20);
        x.valve(1, 1);
        x.rule(1, 1, 4);
        x.burst(3, true);
        x.order(1, 1, 0, 2);
        x.order(0, 2, 2, 1);
        x.order(2, 1, 1, 2);
        x.start();
        x.rule(0, 2, 2);
        x.tick(3);
        x.reading(3, 0, 14);
        x.reading(1, 1, 4);
        x.tell(2);
        x.as(0, 2);
        return x;
    }

    private static void sheets(OilPush x) {
        x.sheet(0, 0, 3);
        x.put(0, 1, 77);
        x.sheet(1, 1, 2);
        x.put(1, 0, 777);
        x.sheet(2, 2, 20);
        int[] cells = {40, -1, 100001, MIN, MAX, 50, 60, 70};
        for (int i = 0; i < cells.length; i++) {
            x.put(2, i, cells[i]);
        }
    }

    /** No more CYLINDERS, ORDERS, READINGS come in. */
    private static OilPush full() {
        OilPush x = new OilPush();
        for (int c = 0; c < 6; c++) {
            x.cylinder(c % 3, 2 + c, 4);
        }
        for (int i = 0; i < 30; i++) {
            x.order(i % 6, i % 3, i % 5, (i + 1) % 3);
        }
        x.start();
        x.tick(2);
        for (int i = 0; i < 20; i++) {
            x.reading(i % 3, i % 6, 0);
        }
        x.as(0, 1);
        return x;
    }

    /** A READING of the TICK that comes next. */
    private static OilPush early() {
        OilPush x = working();
        x.reading(4, 1, 0);
        return x;
    }

    /** One TICK more than ONE LEAK is sought in. */
    private static OilPush late() {
        OilPush x = working();
        x.tick(198);
        return x;
    }

    // ---- lines

    private static void parts(Check k) {
        new Line(k, RefusedTest::working, "pump", (x, a) -> x.pump(a[0], a[1]), 0, 0)
            .bad(UNKNOWN, 0, -1, 2, MIN, MAX).bad(OUTSIDE, 1, -1, 1001, MIN, MAX).hold();
        new Line(k, RefusedTest::working, "pump", (x, a) -> x.pump(a[0], a[1]), 1, 1)
            .bad(UNKNOWN, 0, -1, 2).bad(OUTSIDE, 1, 0, -1, 1001, MIN, MAX).hold();
        new Line(k, RefusedTest::working, "cylinder", (x, a) -> x.cylinder(a[0], a[1], a[2]), 0, 1, 1)
            .bad(OUTSIDE, 0, -1, 3, MIN, MAX).bad(OUTSIDE, 1, 0, 101, -1).bad(OUTSIDE, 2, 0, 101, -1).hold();
        new Line(k, RefusedTest::full, "cylinder", (x, a) -> x.cylinder(a[0], a[1], a[2]), 2, 100, 100)
            .bad(OUTSIDE, 0, -1, 3).bad(OUTSIDE, 1, 0, 101).bad(OUTSIDE, 2, 0, 101).behindAll(FULL).hold();
        int[][] ends = {{0, 500}, {1, 1000}, {0, 100}};
        for (int what = 0; what < 3; what++) {
            for (int good : ends[what]) {
                new Line(k, RefusedTest::working, "rule", (x, a) -> x.rule(a[0], a[1], a[2]), 3, what, good)
                    .bad(UNKNOWN, 0, -1, 4, MIN, MAX).bad(UNKNOWN, 1, -1, 3, MIN, MAX)
                    .bad(OUTSIDE, 2, ends[what][0] - 1, ends[what][1] + 1, MIN, MAX).hold();
            }
        }
        new Line(k, RefusedTest::working, "valve", (x, a) -> x.valve(a[0], a[1]), 3, 2)
            .bad(UNKNOWN, 0, -1, 4, MIN, MAX).bad(OUTSIDE, 1, -1, 3, MIN, MAX).hold();
        new Line(k, RefusedTest::working, "fill", (x, a) -> x.fill(a[0], a[1]), 3, 60)
            .bad(UNKNOWN, 0, -1, 4, MIN, MAX).bad(OUTSIDE, 1, -1, 61, MIN, MAX).hold();
        for (int is = 0; is < 2; is++) {
            new Line(k, RefusedTest::working, "burst", (x, a) -> x.burst(a[0], a[1] == 1), 3, is)
                .bad(UNKNOWN, 0, -1, 4, MIN, MAX).hold();
        }
        new Line(k, RefusedTest::working, "about", (x, a) -> x.about(a[0], a[1]), 3, 0)
            .bad(UNKNOWN, 0, -1, 4, MIN, MAX).bad(OUTSIDE, 1, -1, 10, MIN, MAX).hold();
    }

    /** In the state working() THE STORE has 15: 9 less 4 for each of three TICKS. */
    private static void store(Check k) {
        k.is(15, working().sum(3), "OIL in THE STORE");
        new Line(k, RefusedTest::working, "store", (x, a) -> x.store(a[0], a[1], a[2]), 15, 0, 1)
            .bad(OUTSIDE, 0, -1, 5001, MIN, MAX).bad(OUTSIDE, 1, -1, 1001).bad(OUTSIDE, 2, 0, 101, -1).hold();
        new Line(k, RefusedTest::working, "store", (x, a) -> x.store(a[0], a[1], a[2]), 14, 1000, 100)
            .bad(OUTSIDE, 0, -1, 5001).bad(OUTSIDE, 1, -1, 1001).bad(OUTSIDE, 2, 0, 101).behindAll(STATE).hold();
        new Line(k, RefusedTest::working, "store", (x, a) -> x.store(a[0], a[1], a[2]), 0, 5, 2)
            .behindAll(STATE).hold();
    }

    private static void loads(Check k) {
        Call loads = (x, a) -> x.loads(a[0], a[1], a[2], a[3], a[4]);
        new Line(k, RefusedTest::working, "loads", loads, 3, 2, 2, 5, 1).namingFaults()
            .bad(UNKNOWN, 0, -1, 4).bad(UNKNOWN, 1, -1, 4).bad(OUTSIDE, 2, -1, 3).bad(CAST, 2, 0, 1)
            .bad(SIZE, 4, -1, MIN).bad(INDEX, 3, -1, 21, MIN, MAX).bad(INDEX, 4, 21, MAX)
            .bad(OUTSIDE, 4, 0, 11).bad(OUTSIDE, 3, 1, 2, 3, 4).hold();
        new Line(k, RefusedTest::working, "loads", loads, 3, 2, 2, 5, 1).namingFaults()
            .bad(UNKNOWN, 0, MIN, MAX).bad(OUTSIDE, 2, -1, 3).bad(CAST, 1, 0, 1).bad(SIZE, 4, -1)
            .bad(INDEX, 3, -1, 20).bad(OUTSIDE, 4, 11).hold();
        // Nothing is no CAST: whichever LANE it is taken as.
        for (int lane = 0; lane < 3; lane++) {
            new Line(k, RefusedTest::working, "loads", loads, 3, 3, lane, 0, 1).namingFaults()
                .bad(UNKNOWN, 0, -1, 4).bad(OUTSIDE, 2, -1, 3).behindAll(NULL).hold();
            new Line(k, RefusedTest::working, "loads", loads, 3, 3, lane, -1, -1).namingFaults()
                .bad(UNKNOWN, 0, -1, 4).bad(OUTSIDE, 2, -1, 3).behindAll(NULL).hold();
        }
        for (int what = 0; what < 3; what++) {
            int[] a = {3, 4, 0, 0, 0};
            k.is(UNKNOWN, empty().loads(what, 0, 0, 0, 1), "no CYLINDER at all");
            k.is(UNKNOWN, working().loads(a[0], a[1], what, a[3], a[4]), "no such SHEET");
        }
    }

    private static void ticks(Check k) {
        new Line(k, RefusedTest::working, "tick", (x, a) -> x.tick(a[0]), 200)
            .bad(OUTSIDE, 0, -1, 201, MIN, MAX).hold();
        new Line(k, RefusedTest::working, "gauge", (x, a) -> x.gauge(a[0]), 3)
            .bad(OUTSIDE, 0, -1, 4, MIN, MAX).hold();
        for (int what = 0; what < 4; what++) {
            new Line(k, RefusedTest::empty, "gauge", (x, a) -> x.gauge(a[0]), what)
                .bad(OUTSIDE, 0, -1, 4, MIN, MAX).behindAll(STATE).hold();
        }
        new Line(k, RefusedTest::working, "mover", (x, a) -> x.mover(a[0]), 0)
            .bad(UNKNOWN, 0, -1, 1, 6, MIN, MAX).hold();
        new Line(k, RefusedTest::empty, "mover", (x, a) -> x.mover(a[0]), 0).behindAll(UNKNOWN).hold();
        new Line(k, RefusedTest::working, "sum", (x, a) -> x.sum(a[0]), 4).answeringLong()
            .bad(OUTSIDE, 0, -1, 5, MIN, MAX).hold();
        new Line(k, RefusedTest::working, "told", (x, a) -> x.told(a[0]), 5)
            .bad(OUTSIDE, 0, -1, 6, MIN, MAX).hold();
    }

    private static void orders(Check k) {
        new Line(k, RefusedTest::working, "order", (x, a) -> x.order(a[0], a[1], a[2], a[3]), 3, 0, 3, 2)
            .bad(UNKNOWN, 0, -1, 4, MIN, MAX).bad(UNKNOWN, 2, -1, 4, MIN, MAX).bad(OUTSIDE, 1, -1, 3)
            .bad(OUTSIDE, 3, -1, 3).hold();
        new Line(k, RefusedTest::full, "order", (x, a) -> x.order(a[0], a[1], a[2], a[3]), 5, 2, 5, 0)
            .bad(UNKNOWN, 0, -1, 6).bad(UNKNOWN, 2, -1, 6).bad(OUTSIDE, 1, -1, 3).bad(OUTSIDE, 3, -1, 3)
            .behindAll(FULL).hold();
        new Line(k, RefusedTest::working, "reading", (x, a) -> x.reading(a[0], a[1], a[2]), 200, 3, 60)
            .bad(UNKNOWN, 1, -1, 4, MIN, MAX).bad(OUTSIDE, 0, -1, 201, MIN, MAX)
            .bad(OUTSIDE, 2, -1, 61, MIN, MAX).hold();
        new Line(k, RefusedTest::full, "reading", (x, a) -> x.reading(a[0], a[1], a[2]), 0, 5, 28)
            .bad(UNKNOWN, 1, -1, 6).bad(OUTSIDE, 0, -1, 201).bad(OUTSIDE, 2, -1, 29).behindAll(FULL).hold();
        for (int what = 0; what < 2; what++) {
            Call leak = (x, a) -> x.leak(a[0]);
            new Line(k, RefusedTest::working, "leak", leak, what).bad(OUTSIDE, 0, -1, 2, MIN, MAX).hold();
            new Line(k, RefusedTest::empty, "leak", leak, what).bad(OUTSIDE, 0, -1, 2).behindAll(STATE).hold();
            new Line(k, RefusedTest::early, "leak", leak, what).bad(OUTSIDE, 0, -1, 2).behindAll(STATE).hold();
            new Line(k, RefusedTest::late, "leak", leak, what).bad(OUTSIDE, 0, -1, 2).behindAll(STATE).hold();
        }
    }

    private static void sheetCalls(Check k) {
        Call sheet = (x, a) -> x.sheet(a[0], a[1], a[2]);
        new Line(k, RefusedTest::working, "sheet", sheet, 3, 2, 20).namingFaults()
            .bad(UNKNOWN, 0, -1, 4, MIN, MAX).bad(OUTSIDE, 1, -1, 3, MIN, MAX).bad(OUTSIDE, 2, 21, MAX)
            .bad(SIZE, 2, -1, MIN).hold();
        new Line(k, RefusedTest::working, "sheet", sheet, 0, 0, 0).namingFaults()
            .bad(UNKNOWN, 0, -1, 4).bad(OUTSIDE, 1, -1, 3).bad(OUTSIDE, 2, 21).bad(SIZE, 2, -1).hold();
        new Line(k, RefusedTest::working, "lose", (x, a) -> x.lose(a[0]), 3)
            .bad(UNKNOWN, 0, -1, 4, MIN, MAX).hold();
        new Line(k, RefusedTest::working, "put", (x, a) -> x.put(a[0], a[1], a[2]), 2, 19, 7).namingFaults()
            .bad(UNKNOWN, 0, -1, 4, MIN, MAX).bad(NULL, 0, 3).bad(INDEX, 1, -1, 20, MIN, MAX).hold();
        new Line(k, RefusedTest::empty, "put", (x, a) -> x.put(a[0], a[1], a[2]), 0, 0, 0).namingFaults()
            .bad(UNKNOWN, 0, -1, 4).behindAll(NULL).hold();
    }

    private static void cell(Check k) {
        Call cell = (x, a) -> x.cell(a[0], a[1], a[2]);
        new Line(k, RefusedTest::working, "cell", cell, 2, 19, 2).namingFaults().answeringLong()
            .bad(UNKNOWN, 0, -1, 4, MIN, MAX).bad(OUTSIDE, 2, -1, 3, MIN, MAX).bad(CAST, 2, 0, 1)
            .bad(INDEX, 1, -1, 20, MIN, MAX).hold();
        new Line(k, RefusedTest::working, "cell", cell, 2, 19, 2).namingFaults().answeringLong()
            .bad(OUTSIDE, 2, -1, 3).bad(CAST, 0, 0, 1).bad(INDEX, 1, -1, 20).hold();
        for (int lane = 0; lane < 3; lane++) {
            new Line(k, RefusedTest::working, "cell", cell, 3, 0, lane).namingFaults().answeringLong()
                .bad(UNKNOWN, 0, -1, 4).bad(OUTSIDE, 2, -1, 3).bad(NULL, 1, -1, 20).behindAll(NULL).hold();
        }
    }

    private static void copy(Check k) {
        Call copy = (x, a) -> x.copy(a[0], a[1], a[2], a[3], a[4]);
        new Line(k, RefusedTest::working, "copy", copy, 2, 0, 2, 10, 10).namingFaults()
            .bad(UNKNOWN, 0, -1, 4).bad(UNKNOWN, 2, -1, 4).bad(NULL, 0, 3).bad(NULL, 2, 3)
            .bad(CAST, 0, 0).bad(CAST, 2, 1).bad(INDEX, 1, -1, 11).bad(INDEX, 3, -1, 11).bad(INDEX, 4, -1, 21)
            .hold();
        new Line(k, RefusedTest::working, "copy", copy, 2, 20, 2, 20, 0).namingFaults()
            .bad(INDEX, 1, 21, -1, MIN, MAX).bad(INDEX, 3, 21, -1, MIN, MAX).bad(INDEX, 4, 1, -1, MIN, MAX).hold();
        new Line(k, RefusedTest::empty, "copy", copy, 0, 0, 1, 0, 0).namingFaults()
            .bad(UNKNOWN, 0, -1, 4).bad(UNKNOWN, 2, -1, 4).behindAll(NULL).hold();
    }

    private static void telling(Check k) {
        new Line(k, RefusedTest::working, "tell", (x, a) -> x.tell(a[0]), 3).bad(UNKNOWN, 0, -1, 4, MIN, MAX).hold();
        new Line(k, RefusedTest::working, "look", (x, a) -> x.look(a[0]), 3).bad(UNKNOWN, 0, -1, 4, MIN, MAX).hold();
        Call as = (x, a) -> x.as(a[0], a[1]);
        new Line(k, RefusedTest::working, "as", as, 0, 0).namingFaults()
            .bad(UNKNOWN, 0, -1, 4, MIN, MAX).bad(OUTSIDE, 1, -1, 3, MIN, MAX).bad(CAST, 1, 1, 2).hold();
        new Line(k, RefusedTest::working, "as", as, 1, 1).namingFaults()
            .bad(UNKNOWN, 0, -1, 4).bad(OUTSIDE, 1, -1, 3).bad(CAST, 1, 2).hold();
        new Line(k, RefusedTest::working, "as", as, 2, 2).namingFaults()
            .bad(UNKNOWN, 0, -1, 4).bad(OUTSIDE, 1, -1, 3).hold();
    }

    public static void main(String[] args) {
        Check k = new Check("RefusedTest");
        footprintSees(k);
        parts(k);
        store(k);
        loads(k);
        ticks(k);
        orders(k);
        sheetCalls(k);
        cell(k);
        copy(k);
        telling(k);
        k.end();
    }
}
