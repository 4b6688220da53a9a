/** Promises 21 to 25, and 30 of them. */
public final class SheetsTest {
    private static final int MIN = Integer.MIN_VALUE, MAX = Integer.MAX_VALUE;
    private static final long LOST = Long.MIN_VALUE;

    private static void sheet(Check k) {
        k.part("promises 21, 22");
        OilPush x = new OilPush();
        k.is(1, x.sheet(0, 0, 0), "a row of none");
        k.is(1, x.sheet(3, 2, 20), "a row of 20");
        k.is(-1, x.sheet(4, 3, -1), "UNKNOWN first");
        k.is(-1, x.sheet(-1, 0, 0), "sheet(-1, 0, 0)");
        k.is(-2, x.sheet(0, 3, -1), "lane ahead of SIZE");
        k.is(-2, x.sheet(0, -1, 1), "lane");
        k.is(-2, x.sheet(0, 0, 21), "n above 20");
        k.is(0, x.fault(), "no FAULT");
        k.is(-14, x.sheet(3, 1, -1), "SIZE");
        k.is(4, x.fault(), "fault()");
        k.is(-14, x.sheet(3, 1, MIN), "SIZE");
        x.put(3, 19, 70000);
        k.is(70000, x.cell(3, 19, 2), "a FAULT changes nothing");
        k.is(1, x.sheet(3, 2, 20), "a new row");
        k.is(0, x.cell(3, 19, 2), "0 at first");
        k.is(1, x.sheet(3, 1, 3), "a new row of another LANE");
        k.is(LOST, x.cell(3, 3, 1), "three cells alone");
        k.is(3, x.fault(), "INDEX");
        k.is(1, x.lose(3), "lose(3)");
        k.is(3, x.fault(), "lose names no FAULT");
        k.is(0, x.lose(3), "lose(3) again");
        k.is(1, x.lose(0), "a row of none is something");
        k.is(-1, x.lose(4), "lose(4)");
        k.is(-1, x.lose(-1), "lose(-1)");
        k.is(-11, x.put(3, 0, 0), "NULL");
        k.is(1, x.sheet(3, 1, 3), "again");
        k.is(0, x.cell(3, 2, 1), "0 at first");
    }

    private static void put(Check k) {
        k.part("promises 23, 24: LANES");
        OilPush x = new OilPush();
        for (int lane = 0; lane < 3; lane++) {
            x.sheet(lane, lane, 4);
        }
        int[] values = {0, 1, -1, 127, 128, 255, 256, -129, 32767, 32768, 65535, 65536, -32769, MAX, MIN};
        for (int v : values) {
            for (int lane = 0; lane < 3; lane++) {
                k.is(1, x.put(lane, 3, v), "put(" + lane + ", 3, " + v + ")");
                k.is(lane == 0 ? (byte) v : lane == 1 ? (short) v : v, x.cell(lane, 3, lane), v + " in LANE " + lane);
                k.is(0, x.cell(lane, 2, lane), "the cell beside");
            }
        }
        k.is(-1, x.put(4, 0, 0), "put(4, 0, 0)");
        k.is(-1, x.put(-1, 0, 0), "put(-1, 0, 0)");
        k.is(0, x.fault(), "fault()");
        k.is(-11, x.put(3, -1, 0), "NULL ahead of INDEX");
        k.is(1, x.fault(), "fault()");
        k.is(-13, x.put(0, -1, 0), "INDEX");
        k.is(3, x.fault(), "fault()");
        k.is(-13, x.put(0, 4, 0), "INDEX");
        k.is(-13, x.put(0, MAX, 0), "INDEX");
        k.is(1, x.put(0, 0, 0), "put(0, 0, 0)");
        k.is(0, x.fault(), "fault()");
    }

    private static void cell(Check k) {
        k.part("promise 24: refusals");
        OilPush x = new OilPush();
        x.sheet(1, 1, 2);
        k.is(LOST, x.cell(0, -1, 0), "NULL ahead of INDEX");
        k.is(1, x.fault(), "nothing is no CAST");
        k.is(LOST, x.cell(0, 0, 3), "lane ahead of NULL");
        k.is(0, x.fault(), "fault()");
        k.is(LOST, x.cell(1, -1, 0), "CAST ahead of INDEX");
        k.is(2, x.fault(), "fault()");
        k.is(LOST, x.cell(4, 0, 0), "no such SHEET");
        k.is(0, x.fault(), "fault()");
        k.is(LOST, x.cell(1, -1, 1), "INDEX");
        k.is(3, x.fault(), "fault()");
        k.is(LOST, x.cell(-1, 0, 0), "no such SHEET");
        k.is(0, x.fault(), "fault()");
        k.is(LOST, x.cell(1, 2, 1), "INDEX");
        k.is(3, x.fault(), "fault()");
        k.is(LOST, x.cell(1, 0, -1), "lane");
        k.is(0, x.fault(), "fault()");
        x.cell(1, 2, 1);
        k.is(0, x.cell(1, 1, 1), "a cell");
        k.is(0, x.fault(), "fault()");
    }

    private static void numbers(OilPush x, int sheet, int lane, int n) {
        x.sheet(sheet, lane, n);
        for (int i = 0; i < n; i++) {
            x.put(sheet, i, 10 * sheet + i);
        }
    }

    private static void rowIs(Check k, OilPush x, int sheet, int lane, int... due) {
        for (int i = 0; i < due.length; i++) {
            k.is(due[i], x.cell(sheet, i, lane), "cell(" + sheet + ", " + i + ", " + lane + ")");
        }
        k.is(LOST, x.cell(sheet, due.length, lane), "no cell behind the last of " + sheet);
    }

    private static void copy(Check k) {
        k.part("promise 25");
        OilPush x = new OilPush();
        numbers(x, 0, 2, 5);
        numbers(x, 1, 2, 4);
        numbers(x, 2, 0, 4);
        k.is(3, x.copy(0, 1, 1, 0, 3), "copy(0, 1, 1, 0, 3)");
        rowIs(k, x, 1, 2, 1, 2, 3, 13);
        rowIs(k, x, 0, 2, 0, 1, 2, 3, 4);
        k.is(4, x.copy(0, 0, 0, 1, 4), "onto itself, forth");
        rowIs(k, x, 0, 2, 0, 0, 1, 2, 3);
        k.is(4, x.copy(0, 1, 0, 0, 4), "onto itself, back");
        rowIs(k, x, 0, 2, 0, 1, 2, 3, 3);
        k.is(0, x.copy(0, 5, 1, 4, 0), "none at the end");
        k.is(-13, x.copy(0, 6, 1, 0, 0), "i beyond");
        k.is(3, x.fault(), "fault()");
        k.is(-13, x.copy(0, 0, 1, 5, 0), "j beyond");
        k.is(-13, x.copy(0, -1, 1, 0, 1), "i below 0");
        k.is(-13, x.copy(0, 0, 1, -1, 1), "j below 0");
        k.is(-13, x.copy(0, 0, 1, 0, -1), "n below 0");
        k.is(-13, x.copy(0, 0, 1, 0, 5), "beyond the other");
        k.is(-13, x.copy(1, 0, 0, 0, 5), "beyond the first");
        k.is(-13, x.copy(0, 1, 1, 0, MAX), "no sum wraps");
        k.is(-13, x.copy(0, MAX, 1, 0, MAX), "no sum wraps");
        k.is(-13, x.copy(0, 0, 1, MAX, 1), "no sum wraps");
        rowIs(k, x, 1, 2, 1, 2, 3, 13);
        k.is(-12, x.copy(0, -1, 2, 0, 1), "CAST ahead of INDEX");
        k.is(2, x.fault(), "fault()");
        k.is(-11, x.copy(0, -1, 3, 0, 1), "NULL, the other");
        k.is(1, x.fault(), "fault()");
        k.is(-11, x.copy(3, -1, 0, 0, 1), "NULL, the first");
        k.is(-11, x.copy(3, 0, 3, 0, 0), "NULL, both");
        k.is(-1, x.copy(4, 0, 3, 0, 0), "UNKNOWN ahead of NULL");
        k.is(0, x.fault(), "fault()");
        k.is(-1, x.copy(3, 0, 4, 0, 0), "UNKNOWN ahead of NULL");
        k.is(-1, x.copy(-1, 0, 0, 0, 0), "copy(-1, ..)");
        k.is(-1, x.copy(0, 0, -1, 0, 0), "copy(.., -1, ..)");
        x.copy(3, 0, 3, 0, 0);
        k.is(2, x.copy(2, 0, 2, 2, 2), "bytes");
        k.is(0, x.fault(), "fault()");
        rowIs(k, x, 2, 0, 20, 21, 20, 21);
    }

    public static void main(String[] args) {
        Check k = new Check("SheetsTest");
        sheet(k);
        put(k);
        cell(k);
        copy(k);
        k.end();
    }
}
