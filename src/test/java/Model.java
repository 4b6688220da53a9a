import java.lang.reflect.Array;
import java.util.ArrayList;
import java.util.Comparator;
import java.util.List;

/**
 * A second writing of the document, with the whole Java library and none of the class's own shapes: its SHEETS are
 * real rows and its FAULTS are what the machine itself throws. AgainstModelTest holds the class against it.
 */
final class Model {
    static final long LOST = Long.MIN_VALUE;

    static final class Part {
        int kind, area, stroke, oil, crack, flow = 1000, valve, leak, took;
        boolean burst;
        int[] loads = {0};

        int room() {
            return area * stroke;
        }

        int load() {
            return oil == room() ? loads[loads.length - 1] : loads[oil * loads.length / room()];
        }

        int need() {
            int n = (int) Math.ceil(load() / (double) area);
            return (kind == 2 ? (int) Math.ceil(n / 2.0) : n) + crack;
        }

        boolean at(int end) {
            return end == 0 || end == 1 && oil == room() || end == 2 && oil == 0;
        }

        Part twin() {
            Part p = new Part();
            p.kind = kind;
            p.area = area;
            p.stroke = stroke;
            p.oil = oil;
            p.crack = crack;
            p.flow = flow;
            p.valve = valve;
            p.leak = leak;
            p.burst = burst;
            p.loads = loads;
            return p;
        }
    }

    /** What a TICK works on; a trial of LEAKS has one of its own. */
    static final class World {
        int q, r = 100, cap, first, stiff = 1, inStore, waits;
        List<Part> parts = new ArrayList<>();
        List<int[]> orders = new ArrayList<>();
        long heat, work, given;
        int pressure, over, storeTook;
        List<Integer> movers = new ArrayList<>();

        int storePressure() {
            return first + inStore / stiff;
        }

        World twin() {
            World w = new World();
            w.q = q;
            w.r = r;
            w.cap = cap;
            w.first = first;
            w.stiff = stiff;
            w.inStore = inStore;
            w.waits = waits;
            parts.forEach(p -> w.parts.add(p.twin()));
            w.orders = orders;
            return w;
        }

        void tick() {
            while (waits < orders.size() && parts.get(orders.get(waits)[0]).at(orders.get(waits)[1])) {
                int[] o = orders.get(waits++);
                parts.get(o[2]).valve = o[3];
            }
            for (Part p : parts) {
                int loss = 0;
                if (p.burst && p.kind == 0 || !p.burst && p.valve == 2) {
                    loss = p.flow;
                } else if (!p.burst && p.valve == 0 && p.kind == 0 && p.load() > 0) {
                    loss = p.leak;
                }
                loss = Math.min(loss, p.oil);
                p.oil -= loss;
                p.took = -loss;
            }
            push();
        }

        private void push() {
            List<Part> moving = new ArrayList<>(parts);
            moving.removeIf(p -> p.valve != 1 || p.burst || p.oil >= p.room() || p.need() > r);
            moving.sort(Comparator.comparingInt(Part::need));
            int[] need = moving.stream().mapToInt(Part::need).toArray();
            int[] want = moving.stream().mapToInt(p -> Math.min(p.flow, p.room() - p.oil)).toArray();
            int left = q;
            pressure = 0;
            movers.clear();
            for (int i = 0; i < moving.size(); i++) {
                int v = Math.min(want[i], left);
                take(moving.get(i), v);
                left -= v;
                if (v > 0) {
                    movers.add(parts.indexOf(moving.get(i)));
                    pressure = need[i];
                }
            }
            int own = storePressure();
            storeTook = own > r ? 0 : Math.min(left, cap - inStore);
            inStore += storeTook;
            over = left - storeTook;
            pressure = over > 0 ? r : storeTook > 0 ? Math.max(pressure, own) : pressure;
            for (int i = 0; i < moving.size(); i++) {
                heat += (long) moving.get(i).took * (pressure - need[i]);
                work += (long) moving.get(i).took * need[i];
            }
            heat += (long) storeTook * (pressure - own) + (long) over * r;
            given += (long) q * pressure;
            for (int i = 0; left == 0 && i < moving.size(); i++) {
                if (storePressure() >= need[i]) {
                    int v = Math.min(inStore, want[i] - moving.get(i).took);
                    take(moving.get(i), v);
                    inStore -= v;
                    storeTook -= v;
                }
            }
        }

        private static void take(Part p, int v) {
            p.oil += v;
            p.took += v;
        }
    }

    World now = new World();
    World atStart;
    List<int[]> readings = new ArrayList<>();
    Object[] sheets = new Object[4];
    int ticks, fault, trace;
    boolean ticked;

    private boolean has(int c) {
        return c >= 0 && c < now.parts.size();
    }

    private Part part(int c) {
        return now.parts.get(c);
    }

    private static boolean in(int v, int from, int to) {
        return from <= v && v <= to;
    }

    /** The answer of call number f of the face, in the document's order. */
    long answer(int f, int[] a) {
        switch (f) {
            case 0: return pump(a[0], a[1]);
            case 1: return cylinder(a[0], a[1], a[2]);
            case 2: return rule(a[0], a[1], a[2]);
            case 3: return loads(a[0], a[1], a[2], a[3], a[4]);
            case 4: return valve(a[0], a[1]);
            case 5: return fill(a[0], a[1]);
            case 6: return burst(a[0], a[1] != 0);
            case 7: return store(a[0], a[1], a[2]);
            case 8: return about(a[0], a[1]);
            case 9: return tick(a[0]);
            case 10: return gauge(a[0]);
            case 11: return in(a[0], 0, now.movers.size() - 1) ? now.movers.get(a[0]) : -1;
            case 12: return sum(a[0]);
            case 13: return order(a[0], a[1], a[2], a[3]);
            case 14: return now.waits;
            case 15: return start();
            case 16: return reading(a[0], a[1], a[2]);
            case 17: return forget();
            case 18: return leak(a[0]);
            case 19: return sheet(a[0], a[1], a[2]);
            case 20: return lose(a[0]);
            case 21: return put(a[0], a[1], a[2]);
            case 22: return cell(a[0], a[1], a[2]);
            case 23: return copy(a[0], a[1], a[2], a[3], a[4]);
            case 24: return tell(a[0]);
            case 25: return look(a[0]);
            case 26: return as(a[0], a[1]);
            case 27: return trace;
            case 28: return fault;
            default: return told(a[0]);
        }
    }

    private long pump(int what, int v) {
        if (!in(what, 0, 1)) return -1;
        if (!in(v, what, 1000)) return -2;
        int was = what == 0 ? now.q : now.r;
        if (what == 0) now.q = v;
        else now.r = v;
        return was;
    }

    private long cylinder(int kind, int area, int stroke) {
        if (!in(kind, 0, 2) || !in(area, 1, 100) || !in(stroke, 1, 100)) return -2;
        if (now.parts.size() == 6) return -4;
        Part p = new Part();
        p.kind = kind;
        p.area = area;
        p.stroke = stroke;
        now.parts.add(p);
        return now.parts.size() - 1;
    }

    private long rule(int c, int what, int v) {
        if (!has(c) || !in(what, 0, 2)) return -1;
        if (!in(v, what == 1 ? 1 : 0, what == 0 ? 500 : what == 1 ? 1000 : 100)) return -2;
        Part p = part(c);
        int was = what == 0 ? p.crack : what == 1 ? p.flow : p.leak;
        if (what == 0) p.crack = v;
        if (what == 1) p.flow = v;
        if (what == 2) p.leak = v;
        return was;
    }

    private Object takenAs(int k, int lane) {
        if (lane == 0) return (byte[]) sheets[k];
        if (lane == 1) return (short[]) sheets[k];
        return (int[]) sheets[k];
    }

    private int faultOf(RuntimeException e) {
        fault = e instanceof NullPointerException ? 1 : e instanceof ClassCastException
            || e instanceof ArrayStoreException ? 2 : e instanceof IndexOutOfBoundsException ? 3 : 4;
        return -10 - fault;
    }

    private long loads(int c, int k, int lane, int i, int n) {
        fault = 0;
        if (!has(c) || !in(k, 0, 3)) return -1;
        if (!in(lane, 0, 2)) return -2;
        try {
            Object row = takenAs(k, lane);
            int length = Array.getLength(row);
            if (n < 0) throw new NegativeArraySizeException();
            java.util.Objects.checkFromIndexSize(i, n, length);
            if (!in(n, 1, 10)) return -2;
            int[] loads = new int[n];
            for (int j = 0; j < n; j++) {
                loads[j] = Array.getInt(row, i + j);
                if (!in(loads[j], 0, 100000)) return -2;
            }
            part(c).loads = loads;
            return n;
        } catch (RuntimeException e) {
            return faultOf(e);
        }
    }

    private long valve(int c, int v) {
        if (!has(c)) return -1;
        if (!in(v, 0, 2)) return -2;
        int was = part(c).valve;
        part(c).valve = v;
        return was;
    }

    private long fill(int c, int v) {
        if (!has(c)) return -1;
        if (!in(v, 0, part(c).room())) return -2;
        int was = part(c).oil;
        part(c).oil = v;
        return was;
    }

    private long burst(int c, boolean is) {
        if (!has(c)) return -1;
        boolean was = part(c).burst;
        part(c).burst = is;
        return was == is ? 0 : 1;
    }

    private long store(int cap, int first, int stiff) {
        if (!in(cap, 0, 5000) || !in(first, 0, 1000) || !in(stiff, 1, 100)) return -2;
        if (now.inStore > cap) return -3;
        now.cap = cap;
        now.first = first;
        now.stiff = stiff;
        return 1;
    }

    private long about(int c, int what) {
        if (!has(c)) return -1;
        if (!in(what, 0, 9)) return -2;
        Part p = part(c);
        return new int[] {p.kind, p.area, p.stroke, p.oil, p.load(), p.need(), p.valve, p.loads.length,
            p.burst ? 1 : 0, p.took}[what];
    }

    private long tick(int n) {
        if (!in(n, 0, 200)) return -2;
        if (ticks + n > 100000) return -3;
        for (int i = 0; i < n; i++) {
            now.tick();
            ticks++;
            ticked = true;
        }
        return ticks;
    }

    private long gauge(int what) {
        if (!in(what, 0, 3)) return -2;
        if (!ticked) return -3;
        return new int[] {now.pressure, now.over, now.storeTook, now.movers.size()}[what];
    }

    private long sum(int what) {
        if (!in(what, 0, 4)) return LOST;
        return new long[] {now.heat, now.work, now.given, now.inStore, now.storePressure()}[what];
    }

    private long order(int c, int end, int d, int v) {
        if (!has(c) || !has(d)) return -1;
        if (!in(end, 0, 2) || !in(v, 0, 2)) return -2;
        if (now.orders.size() == 30) return -4;
        now.orders.add(new int[] {c, end, d, v});
        return now.orders.size();
    }

    private long start() {
        atStart = now.twin();
        ticks = 0;
        return 1;
    }

    private long reading(int t, int c, int x) {
        if (!has(c)) return -1;
        if (!in(t, 0, 200) || !in(x, 0, part(c).room())) return -2;
        if (readings.size() == 20) return -4;
        readings.add(new int[] {t, c, x});
        return readings.size();
    }

    private long forget() {
        int were = readings.size();
        readings.clear();
        return were;
    }

    private long leak(int what) {
        if (!in(what, 0, 1)) return -2;
        if (atStart == null || ticks > 200 || readings.stream().anyMatch(r -> r[0] > ticks)) return -3;
        for (int c = 0; c < now.parts.size(); c++) {
            for (int amount = 1; part(c).kind == 0 && amount <= 20; amount++) {
                if (tells(c, amount)) return what == 0 ? c : amount;
            }
        }
        return -9;
    }

    private boolean tells(int c, int amount) {
        World w = now.twin();
        w.inStore = atStart.inStore;
        w.cap = atStart.cap;
        w.first = atStart.first;
        w.stiff = atStart.stiff;
        w.waits = atStart.waits;
        for (int i = 0; i < w.parts.size(); i++) {
            Part p = w.parts.get(i);
            boolean was = i < atStart.parts.size();
            p.oil = was ? atStart.parts.get(i).oil : 0;
            p.valve = was ? atStart.parts.get(i).valve : 0;
            p.burst = was && atStart.parts.get(i).burst;
            p.leak = i == c ? amount : 0;
        }
        for (int t = 0; t <= ticks; t++) {
            for (int[] r : readings) {
                if (r[0] == t && w.parts.get(r[1]).oil != r[2]) return false;
            }
            w.tick();
        }
        return true;
    }

    private long sheet(int k, int lane, int n) {
        fault = 0;
        if (!in(k, 0, 3)) return -1;
        if (!in(lane, 0, 2) || n > 20) return -2;
        try {
            sheets[k] = lane == 0 ? new byte[n] : lane == 1 ? (Object) new short[n] : new int[n];
            return 1;
        } catch (RuntimeException e) {
            return faultOf(e);
        }
    }

    private long lose(int k) {
        if (!in(k, 0, 3)) return -1;
        long had = sheets[k] == null ? 0 : 1;
        sheets[k] = null;
        return had;
    }

    private long put(int k, int i, int v) {
        fault = 0;
        if (!in(k, 0, 3)) return -1;
        try {
            if (sheets[k] instanceof byte[] b) b[i] = (byte) v;
            else if (sheets[k] instanceof short[] s) s[i] = (short) v;
            else ((int[]) sheets[k])[i] = v;
            return 1;
        } catch (RuntimeException e) {
            return faultOf(e);
        }
    }

    private long cell(int k, int i, int lane) {
        fault = 0;
        if (!in(k, 0, 3) || !in(lane, 0, 2)) return LOST;
        try {
            return Array.getInt(takenAs(k, lane), i);
        } catch (RuntimeException e) {
            faultOf(e);
            return LOST;
        }
    }

    private long copy(int k, int i, int other, int j, int n) {
        fault = 0;
        if (!in(k, 0, 3) || !in(other, 0, 3)) return -1;
        try {
            System.arraycopy(sheets[k], i, sheets[other], j, n);
            return n;
        } catch (RuntimeException e) {
            return faultOf(e);
        }
    }

    private void leave(int... bodies) {
        for (int b : bodies) trace = trace * 31 + b;
    }

    private long tell(int c) {
        if (!has(c)) return -1;
        Part p = part(c);
        if (p.kind == 1) leave(2);
        if (p.kind == 2) leave(3);
        leave(1);
        return p.kind == 2 ? p.oil * 2 : p.oil + 1000000 * p.kind;
    }

    private long look(int c) {
        if (!has(c)) return -1;
        leave(part(c).kind == 2 ? 5 : 4);
        return part(c).kind == 2 ? 88 : c;
    }

    private long as(int c, int kind) {
        fault = 0;
        if (!has(c)) return -1;
        if (!in(kind, 0, 2)) return -2;
        return part(c).kind >= kind ? 1 : faultOf(new ClassCastException());
    }

    private long told(int what) {
        if (!in(what, 0, 5)) return -2;
        return new long[] {now.parts.size(), now.orders.size(), readings.size(), ticks,
            now.parts.stream().filter(p -> p.at(1)).count(), now.parts.stream().filter(p -> p.at(2)).count()}[what];
    }
}
