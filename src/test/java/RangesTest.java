/**
 * 'Terms' 1, number by number: what it is at first, the last one that is taken and the first that is refused on
 * either side, and that the last one does what the number is for.
 */
public final class RangesTest {
    private static final int MIN = Integer.MIN_VALUE, MAX = Integer.MAX_VALUE;

    private interface Setter {
        int to(int v);
    }

    /** For a call that answers what the number was. */
    private static void range(Check k, String name, int first, int least, int most, Setter setter) {
        k.part(name);
        k.is(first, setter.to(least), "at first");
        for (int v : new int[] {least - 1, most + 1, MIN, MAX}) {
            k.is(-2, setter.to(v), v + " is refused");
            k.is(least, setter.to(least), "it is as it was");
        }
        k.is(least, setter.to(most), "the least");
        for (int v : new int[] {least - 1, most + 1, MIN, MAX}) {
            k.is(-2, setter.to(v), v + " is refused");
            k.is(most, setter.to(most), "it is as it was");
        }
        k.is(most, setter.to(least + 1), "the most");
        k.is(least + 1, setter.to(most - 1), "the second");
        k.is(most - 1, setter.to(most), "the last but one");
    }

    private static void numbers(Check k) {
        OilPush x = new OilPush();
        x.cylinder(0, 7, 6);
        x.cylinder(2, 1, 1);
        range(k, "Q: 0 .. 1000; 0 at first", 0, 0, 1000, v -> x.pump(0, v));
        range(k, "R: 1 .. 1000; 100 at first", 100, 1, 1000, v -> x.pump(1, v));
        range(k, "CRACK: 0 .. 500; 0 at first", 0, 0, 500, v -> x.rule(0, 0, v));
        range(k, "FLOW: 1 .. 1000; 1000 at first", 1000, 1, 1000, v -> x.rule(0, 1, v));
        range(k, "LEAK: 0 .. 100; 0 at first", 0, 0, 100, v -> x.rule(0, 2, v));
        range(k, "OIL: 0 (at first) .. ROOM", 0, 0, 42, v -> x.fill(0, v));
        range(k, "VALVE: 0 shut (at first), 1 out, 2 in", 0, 0, 2, v -> x.valve(0, v));
        for (int what = 0; what < 3; what++) {
            k.is(what == 1 ? 1000 : 0, x.rule(1, what, 1), "the other CYLINDER's number " + what);
        }
        k.is(0, x.fill(1, 1), "OIL of the other");
        k.is(0, x.valve(1, 1), "VALVE of the other");
    }

    private static void made(Check k) {
        k.part("AREA (1 .. 100), STROKE (1 .. 100), kind 0 .. 2");
        OilPush x = new OilPush();
        int[][] taken = {{0, 1, 1}, {2, 100, 100}, {1, 1, 100}, {0, 100, 1}};
        int[][] refused = {{-1, 1, 1}, {3, 1, 1}, {0, 0, 1}, {0, 101, 1}, {0, 1, 0}, {0, 1, 101}, {MIN, 1, 1},
            {0, MIN, 1}, {0, 1, MIN}, {MAX, 1, 1}, {0, MAX, 1}, {0, 1, MAX}};
        for (int c = 0; c < taken.length; c++) {
            int[] t = taken[c];
            for (int[] r : refused) {
                k.is(-2, x.cylinder(r[0], r[1], r[2]), "cylinder(" + r[0] + ", " + r[1] + ", " + r[2] + ")");
            }
            k.is(c, x.told(0), "refused ones do not count");
            k.is(c, x.cylinder(t[0], t[1], t[2]), "numbered as they come");
            for (int what = 0; what < 3; what++) {
                k.is(t[what], x.about(c, what), "about(" + c + ", " + what + ")");
            }
            int room = t[1] * t[2];
            k.is(0, x.fill(c, room), "its ROOM is AREA times STROKE");
            k.is(-2, x.fill(c, room + 1), "above ROOM");
            k.is(room, x.about(c, 3), "OIL");
        }
    }

    private static void sixEver(Check k) {
        k.part("CYLINDERS, 6 ever");
        OilPush x = new OilPush();
        for (int c = 0; c < 6; c++) {
            k.is(-1, x.about(c, 0), "not yet " + c);
            k.is(c, x.cylinder(c % 3, 1, 1), "cylinder " + c);
            k.is(c % 3, x.about(c, 0), "kind of " + c);
        }
        for (int kind = 0; kind < 3; kind++) {
            k.is(-4, x.cylinder(kind, 1, 1), "a seventh");
            k.is(-1, x.about(6, 0), "there is none");
        }
        x.fill(0, 1);
        x.burst(0, true);
        x.tick(1);
        k.is(-4, x.cylinder(0, 1, 1), "an empty, BURST one leaves no place");
    }

    private static void howManyLoads(Check k) {
        k.part("a row of 1 .. 10 LOADS; one of 0 at first");
        OilPush x = new OilPush();
        x.cylinder(0, 10, 10);
        k.is(1, x.about(0, 7), "one");
        k.is(0, x.about(0, 4), "of 0");
        x.sheet(0, 2, 20);
        for (int i = 0; i < 20; i++) {
            x.put(0, i, i + 1);
        }
        for (int n = 1; n <= 10; n++) {
            k.is(n, x.loads(0, 0, 2, 20 - n, n), "the last " + n);
            k.is(n, x.about(0, 7), "how many");
            k.is(21 - n, x.about(0, 4), "the first of " + n);
            k.is(-2, x.loads(0, 0, 2, 0, 0), "none");
            k.is(-2, x.loads(0, 0, 2, 0, 11), "eleven");
            k.is(-2, x.loads(0, 0, 2, 0, 20), "twenty");
            k.is(n, x.about(0, 7), "as it was");
            k.is(21 - n, x.about(0, 4), "as it was");
        }
    }

    private static void loadRange(Check k) {
        k.part("LOADS: 0 .. 100000 each");
        for (int n = 1; n <= 10; n++) {
            for (int at = 0; at < n; at++) {
                OilPush x = new OilPush();
                x.cylinder(0, 10, 10);
                x.sheet(0, 2, n);
                for (int v : new int[] {-1, 100001, MIN, MAX}) {
                    x.put(0, at, v);
                    k.is(-2, x.loads(0, 0, 2, 0, n), v + " as number " + at + " of " + n);
                    k.is(0, x.fault(), "that is no FAULT");
                    k.is(1, x.about(0, 7), "none of the row is taken");
                }
                x.fill(0, (at * 100 + n - 1) / n);
                for (int v : new int[] {100000, 0}) {
                    x.put(0, at, v);
                    k.is(n, x.loads(0, 0, 2, 0, n), v + " as number " + at + " of " + n);
                    k.is(v, x.about(0, 4), "LOAD there");
                }
            }
        }
    }

    private static void shareRoom(Check k) {
        k.part("LOAD is the one at OIL times how many by ROOM (the last one at ROOM)");
        int[][] sizes = {{1, 1}, {1, 2}, {3, 3}, {7, 1}, {1, 10}, {9, 11}, {100, 100}};
        for (int[] size : sizes) {
            for (int n = 1; n <= 10; n++) {
                OilPush x = Check.plant(0, 100);
                x.cylinder(0, size[0], size[1]);
                int[] loads = new int[n];
                for (int i = 0; i < n; i++) {
                    loads[i] = 1000 + i;
                }
                Check.load(x, 0, loads);
                int room = size[0] * size[1];
                k.is(1000, x.about(0, 4), "empty: the first of " + n);
                // The first OIL of a share, and the one ahead of it.
                for (int i = 1; i < n; i++) {
                    int from = (i * room + n - 1) / n;
                    x.fill(0, from);
                    k.is(1000 + Math.min(n - 1, from * n / room), x.about(0, 4), "from " + from + " of " + room);
                    x.fill(0, from - 1);
                    k.is(1000 + (from - 1) * n / room, x.about(0, 4), "at " + (from - 1) + " of " + room);
                    k.isTrue(x.about(0, 4) < 1000 + i, "ahead of share " + i);
                }
                x.fill(0, room - 1);
                k.is(1000 + (room - 1) * n / room, x.about(0, 4), "one less than ROOM, of " + n);
                x.fill(0, room);
                k.is(1000 + n - 1, x.about(0, 4), "at ROOM: the last of " + n);
            }
        }
    }

    private static void need(Check k) {
        k.part("NEED: LOAD by AREA, rounded up (of a TWIN half of that, rounded up), and CRACK");
        for (int area : new int[] {1, 2, 3, 99, 100}) {
            OilPush x = Check.plant(0, 100);
            for (int kind = 0; kind < 3; kind++) {
                x.cylinder(kind, area, 1);
            }
            int[] loads = {0, 1, area - 1, area, area + 1, 2 * area - 1, 2 * area, 2 * area + 1, 3 * area, 100000};
            for (int load : loads) {
                for (int kind = 0; kind < 3; kind++) {
                    Check.load(x, kind, load);
                    int up = 0;
                    while (up * area < load) {
                        up++;
                    }
                    int due = kind == 2 ? up - up / 2 : up;
                    x.rule(kind, 0, 0);
                    k.is(due, x.about(kind, 5), "kind " + kind + ", " + load + " on " + area);
                    x.rule(kind, 0, 500);
                    k.is(due + 500, x.about(kind, 5), "CRACK is not halved: kind " + kind);
                }
            }
        }
    }

    private static void storeRange(Check k) {
        k.part("CAP (0 .. 5000; 0 at first), FIRST (0 .. 1000; 0 at first), STIFF (1 .. 100; 1 at first)");
        OilPush x = new OilPush();
        k.is(0, x.sum(3), "OIL at first");
        k.is(0, x.sum(4), "PRESSURE at first");
        x.pump(0, 1);
        x.tick(1);
        k.is(1, x.gauge(1), "CAP 0: all goes over");
        k.is(0, x.gauge(2), "CAP 0: it TAKES nothing");
        int[][] refused = {{-1, 0, 1}, {5001, 0, 1}, {0, -1, 1}, {0, 1001, 1}, {0, 0, 0}, {0, 0, 101}, {0, 0, -1},
            {MIN, 0, 1}, {0, MIN, 1}, {0, 0, MIN}, {MAX, 0, 1}, {0, MAX, 1}, {0, 0, MAX}};
        int[][] taken = {{0, 0, 1}, {5000, 0, 1}, {0, 1000, 1}, {0, 0, 100}, {5000, 1000, 100}};
        for (int[] t : taken) {
            k.is(1, x.store(t[0], t[1], t[2]), "store(" + t[0] + ", " + t[1] + ", " + t[2] + ")");
            k.is(t[1], x.sum(4), "its PRESSURE is FIRST");
            for (int[] r : refused) {
                k.is(-2, x.store(r[0], r[1], r[2]), "store(" + r[0] + ", " + r[1] + ", " + r[2] + ")");
                k.is(t[1], x.sum(4), "as it was");
            }
        }
    }

    private static void fullStore(Check k) {
        k.part("THE STORE: its PRESSURE is FIRST and OIL by STIFF");
        OilPush x = new OilPush();
        x.pump(0, 1000);
        x.pump(1, 1000);
        x.store(5000, 1000, 100);
        x.tick(1);
        k.is(1000, x.gauge(2), "a PRESSURE of R TAKES");
        k.is(1010, x.sum(4), "1000 and 1000 by 100");
        x.tick(1);
        k.is(0, x.gauge(2), "a PRESSURE above R does not");
        x.store(5000, 0, 100);
        x.tick(4);
        k.is(5000, x.sum(3), "full");
        k.is(50, x.sum(4), "0 and 5000 by 100");
        k.is(1000, x.gauge(2), "the last that it TAKES");
        x.tick(1);
        k.is(0, x.gauge(2), "it TAKES no more");
        k.is(1000, x.gauge(1), "all goes over");
        k.is(1, x.store(5000, 1000, 1), "CAP is its OIL");
        k.is(6000, x.sum(4), "1000 and 5000 by 1");
        k.is(-3, x.store(4999, 1000, 1), "STATE: it has more OIL than that CAP");
        k.is(-2, x.store(4999, 1001, 1), "OUTSIDE ahead of STATE");
        k.is(6000, x.sum(4), "as it was");
        k.is(1, x.store(5000, 3, 99), "STIFF 99");
        k.is(53, x.sum(4), "quotients are cut: 5000 by 99 is 50");
    }

    private static void extremes(Check k) {
        k.part("the greatest numbers at work");
        OilPush x = Check.plant(1000, 1000);
        x.cylinder(0, 100, 100);
        x.cylinder(2, 100, 100);
        Check.load(x, 0, 100000);
        Check.load(x, 1, 100000);
        x.rule(1, 0, 500);
        x.valve(0, 1);
        x.tick(1);
        k.is(1000, x.about(0, 9), "NEED 1000 is R: it TAKES FLOW 1000");
        k.is(1000, x.gauge(0), "THE PRESSURE");
        x.rule(0, 0, 1);
        x.valve(1, 1);
        x.tick(1);
        k.is(0, x.about(0, 9), "NEED 1001 is above R");
        k.is(1000, x.about(1, 5), "half of 1000, and 500");
        k.is(1000, x.about(1, 9), "NEED 1000 is R");
        x.valve(0, 0);
        x.rule(0, 2, 100);
        x.tick(1);
        k.is(-100, x.about(0, 9), "LEAK 100");
        x.valve(0, 2);
        x.tick(1);
        k.is(-900, x.about(0, 9), "all it has, below FLOW 1000");
        x.fill(0, 10000);
        x.tick(1);
        k.is(-1000, x.about(0, 9), "FLOW 1000");
    }

    private static void least(Check k) {
        k.part("the least numbers at work");
        OilPush x = Check.plant(1, 1);
        x.cylinder(0, 1, 1);
        x.cylinder(1, 1, 2);
        x.rule(1, 1, 1);
        Check.load(x, 0, 2);
        Check.load(x, 1, 1);
        x.valve(0, 1);
        x.valve(1, 1);
        x.tick(1);
        k.is(0, x.about(0, 9), "NEED 2 is above R 1");
        k.is(1, x.about(1, 9), "NEED 1 is R 1: all of Q, all of FLOW");
        x.pump(0, 2);
        x.tick(1);
        k.is(1, x.about(1, 9), "FLOW 1");
        k.is(1, x.gauge(1), "the rest goes over");
        k.is(1, x.told(4), "it is full");
        x.valve(1, 2);
        x.tick(1);
        k.is(-1, x.about(1, 9), "FLOW 1 out");
        x.pump(0, 0);
        x.valve(1, 1);
        x.tick(1);
        k.is(0, x.about(1, 9), "Q 0");
    }

    private static void bursts(Check k) {
        k.part("a hose, whole, or BURST");
        OilPush x = new OilPush();
        k.is(-1, x.burst(0, true), "no CYLINDER");
        for (int c = 0; c < 3; c++) {
            x.cylinder(c, 1, 1);
            k.is(0, x.about(c, 8), "whole at first");
            k.is(0, x.burst(c, false), "it was so");
            k.is(1, x.burst(c, true), "it BURSTS");
            k.is(0, x.burst(c, true), "it was so");
            k.is(1, x.about(c, 8), "BURST");
            k.is(-1, x.burst(c + 1, true), "no such CYLINDER");
        }
        k.is(1, x.burst(1, false), "mended");
        k.is(0, x.burst(1, false), "it was so");
        for (int c = 0; c < 3; c++) {
            k.is(c == 1 ? 0 : 1, x.about(c, 8), "that one alone");
        }
    }

    public static void main(String[] args) {
        Check k = new Check("RangesTest");
        numbers(k);
        made(k);
        sixEver(k);
        howManyLoads(k);
        loadRange(k);
        shareRoom(k);
        need(k);
        storeRange(k);
        fullStore(k);
        extremes(k);
        least(k);
        bursts(k);
        k.end();
    }
}
