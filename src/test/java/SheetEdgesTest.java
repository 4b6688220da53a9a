import java.math.BigInteger;

/** 'Terms' 4, sentence by sentence: SHEETS and their LANES, TELLING and TRACE, and fault(). */
public final class SheetEdgesTest {
    private static final int MIN = Integer.MIN_VALUE, MAX = Integer.MAX_VALUE;
    private static final long LOST = Long.MIN_VALUE;

    // ---- SHEETS

    private static void nothingAtFirst(Check k) {
        k.part("SHEETS 0 .. 3 have nothing (at first)");
        OilPush x = new OilPush();
        x.cylinder(0, 1, 1);
        for (int s = 0; s < 4; s++) {
            k.is(-11, x.put(s, 0, 0), "put");
            k.is(1, x.fault(), "NULL");
            k.is(-11, x.copy(s, 0, s, 0, 0), "copy of none");
            for (int lane = 0; lane < 3; lane++) {
                k.is(LOST, x.cell(s, 0, lane), "cell");
                k.is(1, x.fault(), "nothing is no CAST");
                k.is(-11, x.loads(0, s, lane, 0, 1), "loads: nothing is no CAST");
                k.is(-11, x.loads(0, s, lane, 0, 0), "loads: NULL ahead of how many");
            }
            k.is(0, x.lose(s), "it had nothing");
        }
        for (int s : new int[] {-1, 4, MIN, MAX}) {
            k.is(-1, x.put(s, 0, 0), "no SHEET " + s);
            k.is(-1, x.lose(s), "no SHEET " + s);
            k.is(-1, x.sheet(s, 0, 1), "no SHEET " + s);
            k.is(LOST, x.cell(s, 0, 0), "no SHEET " + s);
            k.is(0, x.fault(), "a refusal is no FAULT");
        }
    }

    private static void lengths(Check k) {
        k.part("a row of 0 .. 20 numbers (0 at first)");
        for (int lane = 0; lane < 3; lane++) {
            for (int n : new int[] {0, 1, 2, 19, 20}) {
                OilPush x = new OilPush();
                k.is(1, x.sheet(1, lane, n), "a row of " + n);
                for (int i = 0; i < n; i++) {
                    k.is(0, x.cell(1, i, lane), "0 at first");
                    k.is(1, x.put(1, i, i + 1), "put");
                }
                for (int i = 0; i < n; i++) {
                    k.is(i + 1, x.cell(1, i, lane), "each cell is its own");
                }
                for (int i : new int[] {-1, n, n + 1, MIN, MAX}) {
                    k.is(-13, x.put(1, i, 5), "put in cell " + i + " of " + n);
                    k.is(LOST, x.cell(1, i, lane), "cell " + i + " of " + n);
                    k.is(3, x.fault(), "INDEX");
                }
                for (int refused : new int[] {21, MAX, -1, MIN}) {
                    k.is(refused < 0 ? -14 : -2, x.sheet(1, lane, refused), "a row of " + refused);
                    k.is(refused < 0 ? 4 : 0, x.fault(), "fault()");
                }
                k.is(n == 0 ? LOST : n, x.cell(1, n - 1, lane), "the row is as it was");
                k.is(1, x.sheet(1, lane, n), "a new row of the same length");
                k.is(n == 0 ? LOST : 0, x.cell(1, n - 1, lane), "0 at first");
                k.is(1, x.lose(1), "it had a row, perhaps of no cells");
                k.is(0, x.lose(1), "it has nothing");
                k.is(-11, x.put(1, 0, 0), "NULL, not INDEX");
            }
        }
    }

    private static void noCells(Check k) {
        k.part("a row of no cells");
        for (int lane = 0; lane < 3; lane++) {
            OilPush x = new OilPush();
            x.cylinder(0, 1, 1);
            x.sheet(0, lane, 0);
            x.sheet(1, lane, 0);
            x.sheet(2, (lane + 1) % 3, 0);
            k.is(-13, x.loads(0, 0, lane, 0, 1), "loads: INDEX");
            k.is(-2, x.loads(0, 0, lane, 0, 0), "loads: none is not 1 .. 10");
            k.is(0, x.fault(), "no FAULT");
            k.is(-14, x.loads(0, 0, lane, 0, -1), "loads: SIZE");
            k.is(-12, x.loads(0, 0, (lane + 1) % 3, 0, 1), "loads: CAST");
            k.is(LOST, x.cell(0, 0, (lane + 1) % 3), "cell: CAST ahead of INDEX");
            k.is(2, x.fault(), "CAST");
            k.is(0, x.copy(0, 0, 1, 0, 0), "copy of none");
            k.is(0, x.copy(0, 0, 0, 0, 0), "copy of none onto itself");
            k.is(-13, x.copy(0, 0, 1, 0, 1), "copy of one");
            k.is(-13, x.copy(0, 1, 1, 0, 0), "i beyond");
            k.is(-13, x.copy(0, 0, 1, 1, 0), "j beyond");
            k.is(-12, x.copy(0, 0, 2, 0, 0), "unlike LANES, though of no cells");
        }
    }

    private static void lanes(Check k) {
        k.part("what comes to a cell of it is cut to its LANE");
        long[][] due = {
            {127, 127, 127, 127}, {128, -128, 128, 128}, {-128, -128, -128, -128}, {-129, 127, -129, -129},
            {255, -1, 255, 255}, {256, 0, 256, 256}, {-256, 0, -256, -256}, {32767, -1, 32767, 32767},
            {32768, 0, -32768, 32768}, {-32768, 0, -32768, -32768}, {-32769, -1, 32767, -32769},
            {65535, -1, -1, 65535}, {65536, 0, 0, 65536}, {100000, -96, -31072, 100000},
            {MAX, -1, -1, MAX}, {MIN, 0, 0, MIN}};
        for (long[] d : due) {
            for (int lane = 0; lane < 3; lane++) {
                OilPush x = new OilPush();
                x.sheet(2, lane, 3);
                k.is(1, x.put(2, 1, (int) d[0]), "put");
                k.is(d[1 + lane], x.cell(2, 1, lane), d[0] + " in LANE " + lane);
                k.is(0, x.cell(2, 0, lane), "the cell ahead");
                k.is(0, x.cell(2, 2, lane), "the cell behind");
                for (int other = 0; other < 3; other++) {
                    if (other != lane) {
                        k.is(LOST, x.cell(2, 1, other), "taken as LANE " + other);
                        k.is(2, x.fault(), "CAST: no LANE is another, not a narrower one either");
                    }
                }
            }
        }
    }

    private static void newRows(Check k) {
        k.part("A SHEET gets a new row");
        OilPush x = new OilPush();
        for (int from = 0; from < 3; from++) {
            for (int to = 0; to < 3; to++) {
                x.sheet(0, from, 5);
                x.put(0, 4, 9);
                k.is(1, x.sheet(0, to, 6), "LANE " + from + " to " + to);
                k.is(0, x.cell(0, 4, to), "0 at first");
                k.is(0, x.cell(0, 5, to), "the longer one's end");
                k.is(1, x.sheet(0, to, 2), "a shorter one");
                k.is(LOST, x.cell(0, 2, to), "its end");
                k.is(3, x.fault(), "INDEX");
            }
        }
        k.is(-11, x.put(1, 0, 0), "the other SHEETS have nothing still");
    }

    private static void loadsOfLanes(Check k) {
        k.part("LOADS become n cells of a SHEET from i on, taken as a row of a LANE");
        OilPush x = new OilPush();
        x.cylinder(0, 1, 10);
        int[] greatest = {127, 32767, 100000};
        for (int lane = 0; lane < 3; lane++) {
            x.sheet(0, lane, 20);
            x.put(0, 19, greatest[lane]);
            k.is(1, x.loads(0, 0, lane, 19, 1), "the last cell");
            k.is(greatest[lane], x.about(0, 4), "LOAD");
            x.put(0, 19, greatest[lane] + 1);
            k.is(-2, x.loads(0, 0, lane, 19, 1), "one more: below 0, or above 100000");
            k.is(greatest[lane], x.about(0, 4), "as it was");
            k.is(10, x.loads(0, 0, lane, 9, 10), "ten, all but the last cell");
            k.is(-13, x.loads(0, 0, lane, 20, 1), "beyond");
            k.is(-13, x.loads(0, 0, lane, 19, 2), "beyond");
            k.is(-13, x.loads(0, 0, lane, 11, 10), "beyond");
            k.is(-13, x.loads(0, 0, lane, -1, 1), "below");
            k.is(-13, x.loads(0, 0, lane, 0, 21), "INDEX ahead of how many");
            k.is(-2, x.loads(0, 0, lane, 0, 20), "how many");
            k.is(-2, x.loads(0, 0, lane, 20, 0), "none, at the end");
            k.is(10, x.about(0, 7), "as it was");
        }
        k.part("the cells are copied");
        x.put(0, 0, 5);
        x.loads(0, 0, 2, 0, 1);
        x.put(0, 0, 6);
        k.is(5, x.about(0, 4), "put");
        x.sheet(0, 2, 1);
        k.is(5, x.about(0, 4), "sheet");
        x.lose(0);
        k.is(5, x.about(0, 4), "lose");
    }

    private static void copies(Check k) {
        k.part("n cells go to another one (perhaps the same) from j on, as they were");
        for (int i = 0; i <= 5; i++) {
            for (int j = 0; j <= 5; j++) {
                for (int n = 0; n <= 6; n++) {
                    copyOnto(k, i, j, n, 0);
                    copyOnto(k, i, j, n, 1);
                }
            }
        }
    }

    private static void copyOnto(Check k, int i, int j, int n, int other) {
        OilPush x = new OilPush();
        int[][] due = new int[2][5];
        for (int s = 0; s < 2; s++) {
            x.sheet(s, 1, 5);
            for (int c = 0; c < 5; c++) {
                due[s][c] = 10 * s + c + 1;
                x.put(s, c, due[s][c]);
            }
        }
        boolean taken = i + n <= 5 && j + n <= 5;
        int[] from = due[0].clone();
        for (int c = 0; taken && c < n; c++) {
            due[other][j + c] = from[i + c];
        }
        String call = "copy(0, " + i + ", " + other + ", " + j + ", " + n + ")";
        k.is(taken ? n : -13, x.copy(0, i, other, j, n), call);
        k.is(taken ? 0 : 3, x.fault(), "fault() behind " + call);
        for (int s = 0; s < 2; s++) {
            for (int c = 0; c < 5; c++) {
                k.is(due[s][c], x.cell(s, c, 1), "cell " + c + " of " + s + " behind " + call);
            }
        }
    }

    private static void unlikeLanes(Check k) {
        k.part("CAST (unlike LANES)");
        for (int lane = 0; lane < 3; lane++) {
            for (int other = 0; other < 3; other++) {
                OilPush x = new OilPush();
                x.sheet(0, lane, 2);
                x.sheet(3, other, 2);
                x.put(0, 0, 7);
                k.is(lane == other ? 1 : -12, x.copy(0, 0, 3, 1, 1), "from " + lane + " to " + other);
                k.is(lane == other ? 0 : 2, x.fault(), "fault()");
                k.is(lane == other ? 7 : 0, x.cell(3, 1, other), "the other's cell");
                k.is(lane == other ? -13 : -12, x.copy(0, 0, 3, 0, 3), "CAST ahead of INDEX");
            }
        }
    }

    // ---- TELLING, TRACE

    private static void trace(Check k) {
        k.part("TRACE: an int that wraps, 0 at first, becomes 31 times it and the number");
        OilPush x = new OilPush();
        for (int c = 0; c < 6; c++) {
            x.cylinder(c % 3, 10, 10);
        }
        BigInteger due = BigInteger.ZERO;
        int[][] told = {{1}, {2, 1}, {3, 1}};
        int[] looked = {4, 4, 5};
        boolean below = false;
        for (int i = 0; i < 120; i++) {
            int c = i * 5 % 6;
            k.is(due.intValue(), x.trace(), "trace() ahead of call " + i);
            if (i % 4 == 3) {
                x.look(c);
                due = leave(due, looked[c % 3]);
            } else {
                x.tell(c);
                due = leave(due, told[c % 3]);
            }
            below |= x.trace() < 0;
        }
        k.is(due.intValue(), x.trace(), "trace()");
        k.isTrue(below, "it went below 0 on its way");
        k.isTrue(due.bitLength() > 64, "it is far beyond an int");
    }

    private static BigInteger leave(BigInteger trace, int... numbers) {
        BigInteger t = trace;
        for (int number : numbers) {
            t = t.multiply(BigInteger.valueOf(31)).add(BigInteger.valueOf(number));
        }
        return t;
    }

    private static void firstWrap(Check k) {
        k.part("TRACE at the first step that wraps");
        OilPush x = new OilPush();
        x.cylinder(0, 1, 1);
        int[] due = {4, 128, 3972, 123136, 3817220, 118333824, -626618748};
        for (int i = 0; i < due.length; i++) {
            x.look(0);
            k.is(due[i], x.trace(), "behind " + (i + 1) + " looks");
        }
    }

    private static void telling(Check k) {
        k.part("TELLING: empty, full, by kind");
        for (int kind = 0; kind < 3; kind++) {
            OilPush x = new OilPush();
            x.cylinder(kind, 100, 100);
            for (int oil : new int[] {0, 1, 10000}) {
                x.fill(0, oil);
                int due = kind == 0 ? oil : kind == 1 ? oil + 1000000 : 2 * oil;
                k.is(due, x.tell(0), "kind " + kind + ", OIL " + oil);
                k.is(oil, x.about(0, 3), "OIL is as it was");
            }
            k.is(kind == 2 ? 88 : 0, x.look(0), "LOOKED AT, kind " + kind);
        }
        OilPush x = new OilPush();
        for (int c = 0; c < 6; c++) {
            k.is(-1, x.tell(c), "none there");
            k.is(-1, x.look(c), "none there");
            x.cylinder(c % 3, 1, 1);
            k.is(c % 3 == 2 ? 88 : c, x.look(c), "its number");
        }
        int trace = x.trace();
        for (int c : new int[] {-1, 6, MIN, MAX}) {
            k.is(-1, x.tell(c), "tell(" + c + ")");
            k.is(-1, x.look(c), "look(" + c + ")");
            k.is(trace, x.trace(), "no body began");
        }
    }

    // ---- fault()

    private interface Call {
        long on(OilPush x);
    }

    /** SHEET 0 has two bytes, 1 has two ints, 2 nothing; CYLINDER 0 is not HELD. */
    private static OilPush faulty() {
        OilPush x = new OilPush();
        x.cylinder(0, 1, 1);
        x.sheet(0, 0, 2);
        x.sheet(1, 2, 2);
        return x;
    }

    private static void faultOfLatest(Check k) {
        k.part("fault(): The FAULT of the latest call that names one: 0: it came to none, or was refused");
        k.is(0, new OilPush().fault(), "0 ahead of any");
        Call[] calls = {
            x -> x.put(2, 0, 0), x -> x.cell(2, 0, 0), x -> x.copy(0, 0, 2, 0, 0), x -> x.loads(0, 2, 0, 0, 1),
            x -> x.as(0, 1), x -> x.cell(0, 0, 1), x -> x.copy(0, 0, 1, 0, 0), x -> x.loads(0, 0, 1, 0, 1),
            x -> x.put(0, 2, 0), x -> x.cell(0, 2, 0), x -> x.copy(0, 2, 0, 0, 1), x -> x.loads(0, 0, 0, 2, 1),
            x -> x.sheet(3, 0, -1), x -> x.loads(0, 0, 0, 0, -1),
            x -> x.put(4, 0, 0), x -> x.cell(4, 0, 0), x -> x.copy(0, 0, 4, 0, 0), x -> x.loads(1, 0, 0, 0, 1),
            x -> x.as(1, 0), x -> x.sheet(4, 0, 1), x -> x.cell(0, 0, 3), x -> x.loads(0, 0, 3, 0, 1),
            x -> x.as(0, 3), x -> x.sheet(0, 3, 1), x -> x.sheet(0, 0, 21), x -> x.loads(0, 0, 0, 0, 0),
            x -> x.put(0, 0, 0), x -> x.cell(0, 0, 0), x -> x.copy(0, 0, 0, 1, 1), x -> x.loads(0, 0, 0, 0, 1),
            x -> x.as(0, 0), x -> x.sheet(3, 0, 1)};
        int[] due = {1, 1, 1, 1, 2, 2, 2, 2, 3, 3, 3, 3, 4, 4};
        for (int first = 0; first < calls.length; first++) {
            for (int second = 0; second < calls.length; second++) {
                OilPush x = faulty();
                calls[first].on(x);
                k.is(first < due.length ? due[first] : 0, x.fault(), "call " + first);
                k.is(first < due.length ? due[first] : 0, x.fault(), "asked again");
                calls[second].on(x);
                k.is(second < due.length ? due[second] : 0, x.fault(), "call " + second + " behind " + first);
            }
        }
    }

    private static void kinds(Check k) {
        k.part("as: a TWIN is HELD, each is a CYLINDER");
        OilPush x = new OilPush();
        k.is(-1, x.as(0, 0), "no CYLINDER");
        for (int c = 0; c < 3; c++) {
            x.cylinder(c, 1, 1);
            for (int kind = -1; kind <= 3; kind++) {
                int answer = kind < 0 || kind > 2 ? -2 : kind <= c ? 1 : -12;
                k.is(answer, x.as(c, kind), "kind " + c + " as " + kind);
                k.is(answer == -12 ? 2 : 0, x.fault(), "fault()");
            }
            k.is(c, x.about(c, 0), "its kind is as it was");
            k.is(-1, x.as(c + 1, 0), "no such CYLINDER");
        }
    }

    public static void main(String[] args) {
        Check k = new Check("SheetEdgesTest");
        nothingAtFirst(k);
        lengths(k);
        noCells(k);
        lanes(k);
        newRows(k);
        loadsOfLanes(k);
        copies(k);
        unlikeLanes(k);
        trace(k);
        firstWrap(k);
        telling(k);
        faultOfLatest(k);
        kinds(k);
        k.end();
    }
}
