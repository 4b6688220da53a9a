import java.util.Arrays;

/** Oil under push: the words in capitals are those of the document, shared/DOC.md. */
public final class OilPush {
    public static final int UNKNOWN = -1, OUTSIDE = -2, STATE = -3, FULL = -4, NONE = -9;
    public static final long LOST = Long.MIN_VALUE;

    private static final int NULL = 1, CAST = 2, INDEX = 3, SIZE = 4;
    private static final int MOST_CYLINDERS = 6, MOST_LOADS = 10, MOST_ORDERS = 30, MOST_READINGS = 20;
    private static final int MOST_SHEETS = 4, MOST_CELLS = 20;
    private static final int MOST_AT_ONCE = 200, MOST_TICKS = 100000, MOST_TRIED_TICKS = 200;
    private static final int MOST_TRIED_LEAK = 20;
    private static final int SHUT = 0, OUT = 1, IN = 2;
    private static final int NO_END = 0, AT_ROOM = 1, AT_NOTHING = 2;

    private final Plant plant = new Plant();
    private final State now = new State();
    private final Engine engine = new Engine();
    private final Orders orders = new Orders();

    // Trials of LEAKS run in rows of their own: they may not touch what the gauges tell.
    private final State atStart = new State();
    private final State tried = new State();
    private final Engine trial = new Engine();
    private final int[] triedLeaks = new int[MOST_CYLINDERS];
    private final Readings readings = new Readings();

    private final Sheet[] sheets = new Sheet[MOST_SHEETS];
    private final Trace trace = new Trace();
    private int latestFault;

    private boolean started;
    private boolean ticked;
    private int ticks;

    public OilPush() {
        for (int k = 0; k < sheets.length; k++) {
            sheets[k] = new Sheet();
        }
    }

    // ---- 1 parts

    public int pump(int what, int v) {
        if (what != 0 && what != 1) {
            return UNKNOWN;
        }
        if (!within(v, what == 0 ? 0 : 1, 1000)) {
            return OUTSIDE;
        }
        int was = what == 0 ? plant.gives : plant.limit;
        if (what == 0) {
            plant.gives = v;
        } else {
            plant.limit = v;
        }
        return was;
    }

    public int cylinder(int kind, int area, int stroke) {
        if (!within(kind, 0, 2) || !within(area, 1, 100) || !within(stroke, 1, 100)) {
            return OUTSIDE;
        }
        return plant.add(kind, area, stroke) ? plant.count - 1 : FULL;
    }

    public int rule(int c, int what, int v) {
        Cylinder x = plant.at(c);
        if (x == null || !within(what, 0, 2)) {
            return UNKNOWN;
        }
        switch (what) {
            case 0:
                return within(v, 0, 500) ? x.newCrack(v) : OUTSIDE;
            case 1:
                return within(v, 1, 1000) ? x.newFlow(v) : OUTSIDE;
            default:
                return within(v, 0, 100) ? swap(plant.leaks, c, v) : OUTSIDE;
        }
    }

    public int loads(int c, int k, int lane, int i, int n) {
        latestFault = 0;
        Cylinder x = plant.at(c);
        Sheet s = sheetAt(k);
        if (x == null || s == null) {
            return UNKNOWN;
        }
        if (!isLane(lane)) {
            return OUTSIDE;
        }
        int taken = s.faultTakenAs(lane);
        if (taken != 0) {
            return faulted(taken);
        }
        if (n < 0) {
            return faulted(SIZE);
        }
        if (!s.holds(i, n)) {
            return faulted(INDEX);
        }
        if (!within(n, 1, MOST_LOADS) || !s.areAllWithin(i, n, 100000)) {
            return OUTSIDE;
        }
        x.newLoads(s.cells, i, n);
        return n;
    }

    public int valve(int c, int v) {
        if (plant.at(c) == null) {
            return UNKNOWN;
        }
        return within(v, SHUT, IN) ? swap(now.valve, c, v) : OUTSIDE;
    }

    public int fill(int c, int v) {
        Cylinder x = plant.at(c);
        if (x == null) {
            return UNKNOWN;
        }
        return within(v, 0, x.room()) ? swap(now.oil, c, v) : OUTSIDE;
    }

    public int burst(int c, boolean is) {
        if (plant.at(c) == null) {
            return UNKNOWN;
        }
        int v = is ? 1 : 0;
        return swap(now.burst, c, v) == v ? 0 : 1;
    }

    public int store(int cap, int first, int stiff) {
        if (!within(cap, 0, 5000) || !within(first, 0, 1000) || !within(stiff, 1, 100)) {
            return OUTSIDE;
        }
        if (now.store.oil > cap) {
            return STATE;
        }
        now.store.cap = cap;
        now.store.first = first;
        now.store.stiff = stiff;
        return 1;
    }

    public int about(int c, int what) {
        Cylinder x = plant.at(c);
        if (x == null) {
            return UNKNOWN;
        }
        switch (what) {
            case 0: return x.kind();
            case 1: return x.area;
            case 2: return x.stroke;
            case 3: return get(now.oil, c);
            case 4: return x.loadAt(get(now.oil, c));
            case 5: return x.needAt(get(now.oil, c));
            case 6: return get(now.valve, c);
            case 7: return x.loadCount;
            case 8: return get(now.burst, c);
            case 9: return get(engine.took, c);
            default: return OUTSIDE;
        }
    }

    // ---- 2 ticks

    public int tick(int n) {
        if (!within(n, 0, MOST_AT_ONCE)) {
            return OUTSIDE;
        }
        if (ticks + n > MOST_TICKS) {
            return STATE;
        }
        for (int i = 0; i < n; i++) {
            orders.obey(plant, now);
            engine.run(plant, now, plant.leaks);
        }
        ticks += n;
        ticked = ticked || n > 0;
        return ticks;
    }

    public int gauge(int what) {
        if (!within(what, 0, 3)) {
            return OUTSIDE;
        }
        if (!ticked) {
            return STATE;
        }
        switch (what) {
            case 0: return engine.pressure;
            case 1: return engine.over;
            case 2: return engine.storeTook;
            default: return engine.takers;
        }
    }

    public int mover(int i) {
        return within(i, 0, engine.takers - 1) ? get(engine.taker, i) : UNKNOWN;
    }

    public long sum(int what) {
        switch (what) {
            case 0: return engine.heat;
            case 1: return engine.work;
            case 2: return engine.given;
            case 3: return now.store.oil;
            case 4: return now.store.pressure();
            default: return LOST;
        }
    }

    // ---- 3 orders, readings

    public int order(int c, int end, int d, int v) {
        if (plant.at(c) == null || plant.at(d) == null) {
            return UNKNOWN;
        }
        if (!within(end, NO_END, AT_NOTHING) || !within(v, SHUT, IN)) {
            return OUTSIDE;
        }
        return orders.add(c, end, d, v) ? orders.count : FULL;
    }

    public int waits() {
        return now.waits;
    }

    public int start() {
        atStart.become(now);
        started = true;
        ticks = 0;
        return 1;
    }

    public int reading(int t, int c, int x) {
        Cylinder of = plant.at(c);
        if (of == null) {
            return UNKNOWN;
        }
        if (!within(t, 0, MOST_TRIED_TICKS) || !within(x, 0, of.room())) {
            return OUTSIDE;
        }
        return readings.add(t, c, x) ? readings.count : FULL;
    }

    public int forget() {
        int were = readings.count;
        readings.count = 0;
        return were;
    }

    public int leak(int what) {
        if (what != 0 && what != 1) {
            return OUTSIDE;
        }
        if (!started || ticks > MOST_TRIED_TICKS || readings.latest() > ticks) {
            return STATE;
        }
        for (int c = 0; c < plant.count; c++) {
            for (int amount = 1; !plant.isHeld(c) && amount <= MOST_TRIED_LEAK; amount++) {
                if (wouldTellAll(c, amount)) {
                    return what == 0 ? c : amount;
                }
            }
        }
        return NONE;
    }

    private boolean wouldTellAll(int c, int amount) {
        tried.become(atStart);
        set(triedLeaks, c, amount);
        int latest = readings.latest();
        boolean so = readings.areToldAt(0, tried);
        for (int t = 1; so && t <= latest; t++) {
            orders.obey(plant, tried);
            trial.run(plant, tried, triedLeaks);
            so = readings.areToldAt(t, tried);
        }
        set(triedLeaks, c, 0);
        return so;
    }

    // ---- 4 sheets, parts

    public int sheet(int k, int lane, int n) {
        latestFault = 0;
        Sheet s = sheetAt(k);
        if (s == null) {
            return UNKNOWN;
        }
        if (!isLane(lane) || n > MOST_CELLS) {
            return OUTSIDE;
        }
        if (n < 0) {
            return faulted(SIZE);
        }
        s.renew(lane, n);
        return 1;
    }

    public int lose(int k) {
        Sheet s = sheetAt(k);
        if (s == null) {
            return UNKNOWN;
        }
        boolean had = s.has;
        s.has = false;
        return had ? 1 : 0;
    }

    public int put(int k, int i, int v) {
        latestFault = 0;
        Sheet s = sheetAt(k);
        if (s == null) {
            return UNKNOWN;
        }
        if (!s.has) {
            return faulted(NULL);
        }
        if (!s.holds(i, 1)) {
            return faulted(INDEX);
        }
        s.write(i, v);
        return 1;
    }

    public long cell(int k, int i, int lane) {
        latestFault = 0;
        Sheet s = sheetAt(k);
        if (s == null || !isLane(lane)) {
            return LOST;
        }
        latestFault = s.faultTakenAs(lane);
        if (latestFault != 0) {
            return LOST;
        }
        if (!s.holds(i, 1)) {
            latestFault = INDEX;
            return LOST;
        }
        return get(s.cells, i);
    }

    public int copy(int k, int i, int other, int j, int n) {
        latestFault = 0;
        Sheet from = sheetAt(k);
        Sheet to = sheetAt(other);
        if (from == null || to == null) {
            return UNKNOWN;
        }
        if (!from.has || !to.has) {
            return faulted(NULL);
        }
        if (from.lane != to.lane) {
            return faulted(CAST);
        }
        if (!from.holds(i, n) || !to.holds(j, n)) {
            return faulted(INDEX);
        }
        System.arraycopy(from.cells, i, to.cells, j, n);
        return n;
    }

    public int tell(int c) {
        Cylinder x = plant.at(c);
        return x == null ? UNKNOWN : x.toldBy(trace, get(now.oil, c));
    }

    public int look(int c) {
        Cylinder x = plant.at(c);
        return x == null ? UNKNOWN : x.seenBy(trace);
    }

    public int as(int c, int kind) {
        latestFault = 0;
        Cylinder x = plant.at(c);
        if (x == null) {
            return UNKNOWN;
        }
        if (!within(kind, 0, 2)) {
            return OUTSIDE;
        }
        boolean is = kind == 0 || (kind == 1 ? x instanceof Held : x instanceof Twin);
        return is ? 1 : faulted(CAST);
    }

    public int trace() {
        return trace.value;
    }

    public int fault() {
        return latestFault;
    }

    public int told(int what) {
        switch (what) {
            case 0: return plant.count;
            case 1: return orders.count;
            case 2: return readings.count;
            case 3: return ticks;
            case 4: return plant.howManyAt(AT_ROOM, now);
            case 5: return plant.howManyAt(AT_NOTHING, now);
            default: return OUTSIDE;
        }
    }

    // The cells of all rows of numbers are come to by these two alone: no index goes unlooked at.
    private static int get(int[] row, int i) {
        return i >= 0 && i < row.length ? row[i] : 0;
    }

    private static void set(int[] row, int i, int v) {
        if (i >= 0 && i < row.length) {
            row[i] = v;
        }
    }

    private static int swap(int[] row, int i, int v) {
        int was = get(row, i);
        set(row, i, v);
        return was;
    }

    private static boolean within(int v, int least, int most) {
        return v >= least && v <= most;
    }

    private static boolean isLane(int lane) {
        return within(lane, 0, 2);
    }

    private Sheet sheetAt(int k) {
        return k >= 0 && k < sheets.length ? sheets[k] : null;
    }

    private int faulted(int which) {
        latestFault = which;
        return -10 - which;
    }

    /** TRACE: the bodies of the TELLING leave their numbers in it. */
    private static final class Trace {
        int value;

        void leave(int number) {
            value = 31 * value + number;
        }
    }

    /** What a CYLINDER is; what moves in it stands in a State, so that a trial can have its own. */
    private static class Cylinder {
        final int number;
        final int area;
        final int stroke;
        final int[] loads = new int[MOST_LOADS];
        int loadCount = 1;
        int crack;
        int flow = 1000;

        Cylinder(int number, int area, int stroke) {
            this.number = number;
            this.area = area;
            this.stroke = stroke;
        }

        int kind() {
            return 0;
        }

        final int room() {
            return area * stroke;
        }

        final int loadAt(int oil) {
            int room = room();
            if (room <= 0) {
                return 0;
            }
            return get(loads, Math.min(oil * loadCount / room, loadCount - 1));
        }

        int pushAgainst(int load) {
            return area <= 0 ? 0 : (load + area - 1) / area;
        }

        final int needAt(int oil) {
            return pushAgainst(loadAt(oil)) + crack;
        }

        final boolean isAt(int end, int oil) {
            return end == NO_END || oil == (end == AT_ROOM ? room() : 0);
        }

        final int newCrack(int v) {
            int was = crack;
            crack = v;
            return was;
        }

        final int newFlow(int v) {
            int was = flow;
            flow = v;
            return was;
        }

        final void newLoads(int[] cells, int i, int n) {
            loadCount = n;
            for (int j = 0; j < n; j++) {
                set(loads, j, get(cells, i + j));
            }
        }

        int toldBy(Trace trace, int oil) {
            return plainlyTold(trace, oil);
        }

        // Apart from toldBy, for a TWIN's body goes to it past the one of HELD.
        final int plainlyTold(Trace trace, int oil) {
            trace.leave(1);
            return oil;
        }

        int seenBy(Trace trace) {
            trace.leave(4);
            return number;
        }
    }

    private static class Held extends Cylinder {
        Held(int number, int area, int stroke) {
            super(number, area, stroke);
        }

        int kind() {
            return 1;
        }

        int toldBy(Trace trace, int oil) {
            trace.leave(2);
            return plainlyTold(trace, oil) + 1000000;
        }
    }

    private static final class Twin extends Held {
        Twin(int number, int area, int stroke) {
            super(number, area, stroke);
        }

        int kind() {
            return 2;
        }

        int pushAgainst(int load) {
            return (super.pushAgainst(load) + 1) / 2;
        }

        int toldBy(Trace trace, int oil) {
            trace.leave(3);
            return 2 * plainlyTold(trace, oil);
        }

        int seenBy(Trace trace) {
            trace.leave(5);
            return 88;
        }
    }

    /** THE PUMP, THE LIMIT, the CYLINDERS and their LEAKS: what calls alone change. */
    private static final class Plant {
        int gives;
        int limit = 100;
        final Cylinder[] cylinders = new Cylinder[MOST_CYLINDERS];
        int count;
        // Not in Cylinder: a trial of LEAKS brings a row of its own.
        final int[] leaks = new int[MOST_CYLINDERS];

        Cylinder at(int c) {
            return c >= 0 && c < count && c < cylinders.length ? cylinders[c] : null;
        }

        boolean add(int kind, int area, int stroke) {
            if (count < 0 || count >= cylinders.length) {
                return false;
            }
            if (kind == 0) {
                cylinders[count] = new Cylinder(count, area, stroke);
            } else if (kind == 1) {
                cylinders[count] = new Held(count, area, stroke);
            } else {
                cylinders[count] = new Twin(count, area, stroke);
            }
            count++;
            return true;
        }

        boolean isHeld(int c) {
            return at(c) instanceof Held;
        }

        int howManyAt(int end, State s) {
            int many = 0;
            for (int c = 0; c < count; c++) {
                Cylinder x = at(c);
                if (x != null && x.isAt(end, get(s.oil, c))) {
                    many++;
                }
            }
            return many;
        }
    }

    private static final class Store {
        int cap;
        int first;
        int stiff = 1;
        int oil;

        int pressure() {
            return stiff <= 0 ? first : first + oil / stiff;
        }

        void become(Store other) {
            cap = other.cap;
            first = other.first;
            stiff = other.stiff;
            oil = other.oil;
        }
    }

    /** All that TICKS change and START keeps. */
    private static final class State {
        final int[] oil = new int[MOST_CYLINDERS];
        final int[] valve = new int[MOST_CYLINDERS];
        final int[] burst = new int[MOST_CYLINDERS];
        final Store store = new Store();
        int waits;

        void become(State other) {
            for (int c = 0; c < MOST_CYLINDERS; c++) {
                set(oil, c, get(other.oil, c));
                set(valve, c, get(other.valve, c));
                set(burst, c, get(other.burst, c));
            }
            store.become(other.store);
            waits = other.waits;
        }
    }

    /** What a TICK does to a State behind the ORDERS, and what the gauges tell of it. */
    private static final class Engine {
        final int[] took = new int[MOST_CYLINDERS];
        private final int[] line = new int[MOST_CYLINDERS];
        private int moving;
        // NEED and the most that may be TAKEN, as they were in (3): (5) asks for them again.
        private final int[] need = new int[MOST_CYLINDERS];
        private final int[] most = new int[MOST_CYLINDERS];
        final int[] taker = new int[MOST_CYLINDERS];
        int takers;
        int pressure;
        int over;
        int storeTook;
        long heat;
        long work;
        long given;

        void run(Plant plant, State s, int[] leaks) {
            for (int c = 0; c < MOST_CYLINDERS; c++) {
                set(took, c, -drain(plant.at(c), s, leaks));
            }
            lineUp(plant, s);
            int left = takeFromPump(plant.gives, s);
            int own = s.store.pressure();
            storeTook = own <= plant.limit ? Math.min(left, s.store.cap - s.store.oil) : 0;
            s.store.oil += storeTook;
            over = left - storeTook;
            if (storeTook > 0) {
                pressure = Math.max(pressure, own);
            }
            if (over > 0) {
                pressure = plant.limit;
            }
            addUp(plant, own);
            if (left == 0) {
                takeFromStore(s);
            }
        }

        private int drain(Cylinder x, State s, int[] leaks) {
            if (x == null) {
                return 0;
            }
            int oil = get(s.oil, x.number);
            int loss = Math.min(oil, mostLost(x, s, get(leaks, x.number)));
            set(s.oil, x.number, oil - loss);
            return loss;
        }

        private int mostLost(Cylinder x, State s, int leak) {
            boolean held = x instanceof Held;
            int valve = get(s.valve, x.number);
            if (get(s.burst, x.number) == 1) {
                return held ? 0 : x.flow;
            }
            if (valve == IN) {
                return x.flow;
            }
            boolean leaks = valve == SHUT && !held && x.loadAt(get(s.oil, x.number)) > 0;
            return leaks ? leak : 0;
        }

        private void lineUp(Plant plant, State s) {
            moving = 0;
            for (int c = 0; c < plant.count; c++) {
                Cylinder x = plant.at(c);
                if (x == null || get(s.valve, c) != OUT || get(s.burst, c) == 1) {
                    continue;
                }
                int oil = get(s.oil, c);
                set(need, c, x.needAt(oil));
                set(most, c, Math.min(x.flow, x.room() - oil));
                if (oil < x.room() && get(need, c) <= plant.limit) {
                    queue(c);
                }
            }
        }

        // They come by number, so one goes only ahead of those with a greater NEED.
        private void queue(int c) {
            int i = moving;
            while (i > 0 && get(need, get(line, i - 1)) > get(need, c)) {
                set(line, i, get(line, i - 1));
                i--;
            }
            set(line, i, c);
            moving++;
        }

        private int takeFromPump(int gives, State s) {
            int left = gives;
            takers = 0;
            pressure = 0;
            for (int i = 0; i < moving; i++) {
                int c = get(line, i);
                int v = Math.min(get(most, c), left);
                if (v > 0) {
                    give(c, v, s);
                    left -= v;
                    set(taker, takers, c);
                    takers++;
                    pressure = Math.max(pressure, get(need, c));
                }
            }
            return left;
        }

        private void give(int c, int v, State s) {
            set(took, c, get(took, c) + v);
            set(s.oil, c, get(s.oil, c) + v);
        }

        // Ahead of (5), while took has what came from THE PUMP alone.
        private void addUp(Plant plant, int own) {
            for (int i = 0; i < takers; i++) {
                int c = get(taker, i);
                long v = get(took, c);
                heat += v * (pressure - get(need, c));
                work += v * get(need, c);
            }
            heat += (long) storeTook * (pressure - own);
            heat += (long) over * plant.limit;
            given += (long) plant.gives * pressure;
        }

        private void takeFromStore(State s) {
            for (int i = 0; i < moving; i++) {
                int c = get(line, i);
                if (s.store.pressure() >= get(need, c)) {
                    int v = Math.min(get(most, c) - get(took, c), s.store.oil);
                    give(c, v, s);
                    s.store.oil -= v;
                    storeTook -= v;
                }
            }
        }
    }

    private static final class Orders {
        private final int[] waitsFor = new int[MOST_ORDERS];
        private final int[] end = new int[MOST_ORDERS];
        private final int[] turned = new int[MOST_ORDERS];
        private final int[] valve = new int[MOST_ORDERS];
        int count;

        boolean add(int c, int atEnd, int d, int v) {
            if (count >= MOST_ORDERS) {
                return false;
            }
            set(waitsFor, count, c);
            set(end, count, atEnd);
            set(turned, count, d);
            set(valve, count, v);
            count++;
            return true;
        }

        void obey(Plant plant, State s) {
            for (int i = s.waits; i < count; i++) {
                Cylinder x = plant.at(get(waitsFor, i));
                if (x == null || !x.isAt(get(end, i), get(s.oil, x.number))) {
                    return;
                }
                set(s.valve, get(turned, i), get(valve, i));
                s.waits = i + 1;
            }
        }
    }

    private static final class Readings {
        private final int[] time = new int[MOST_READINGS];
        private final int[] of = new int[MOST_READINGS];
        private final int[] oil = new int[MOST_READINGS];
        int count;

        boolean add(int t, int c, int x) {
            if (count >= MOST_READINGS) {
                return false;
            }
            set(time, count, t);
            set(of, count, c);
            set(oil, count, x);
            count++;
            return true;
        }

        int latest() {
            int latest = 0;
            for (int i = 0; i < count; i++) {
                latest = Math.max(latest, get(time, i));
            }
            return latest;
        }

        boolean areToldAt(int t, State s) {
            for (int i = 0; i < count; i++) {
                if (get(time, i) == t && get(s.oil, get(of, i)) != get(oil, i)) {
                    return false;
                }
            }
            return true;
        }
    }

    /** One row for all LANES, made once: a new row of a SHEET costs no new object. */
    private static final class Sheet {
        final int[] cells = new int[MOST_CELLS];
        boolean has;
        int lane;
        private int length;

        void renew(int newLane, int n) {
            Arrays.fill(cells, 0);
            has = true;
            lane = newLane;
            length = Math.min(n, cells.length);
        }

        int faultTakenAs(int asLane) {
            if (!has) {
                return NULL;
            }
            return lane == asLane ? 0 : CAST;
        }

        boolean holds(int i, int n) {
            return i >= 0 && n >= 0 && (long) i + n <= length;
        }

        boolean areAllWithin(int i, int n, int most) {
            for (int j = 0; j < n; j++) {
                if (!within(get(cells, i + j), 0, most)) {
                    return false;
                }
            }
            return true;
        }

        void write(int i, int v) {
            set(cells, i, lane == 0 ? (byte) v : lane == 1 ? (short) v : v);
        }
    }
}
