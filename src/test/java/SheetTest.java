/** Promises 22 to 32: sheets, parts. */
public final class SheetTest {
    private static final Check CHECK = new Check("SheetTest");
    private static final String ONE = "k2103,213;c06;l14;s05;c38";
    private static final long LOST = LinenLaw.LOST;

    private static void due(String call, long got, long want) {
        CHECK.due(call, got, want);
    }

    public static void main(String[] args) {
        sheet();
        lose();
        put();
        cell();
        copy();
        copyOverItself();
        tell();
        knot();
        as();
        traceWraps();
        fault();
        many();
        CHECK.end();
    }

    private static void sheet() {
        LinenLaw x = new LinenLaw();
        due("22: sheet 4", x.sheet(4, 3, -1), -1);
        due("22: sheet -1", x.sheet(-1, 0, 1), -1);
        due("22: lane 3 ahead of size", x.sheet(0, 3, -1), -2);
        due("22: lane -1", x.sheet(0, -1, 1), -2);
        due("22: n 61", x.sheet(0, 0, 61), -2);
        due("22: n far off", x.sheet(0, 0, Integer.MAX_VALUE), -2);
        due("22: size", x.sheet(0, 0, -1), -14);
        due("22: fault", x.fault(), 4);
        due("22: size", x.sheet(0, 2, Integer.MIN_VALUE), -14);
        due("22: nothing is made", x.lose(0), 0);
        due("22: n 60", x.sheet(0, 2, 60), 1);
        due("22: fault", x.fault(), 0);
        due("22: 0 at first", x.cell(0, 59, 2), 0);
        due("22: 60 is beyond", x.cell(0, 60, 2), LOST);
        due("22: n 0", x.sheet(1, 0, 0), 1);
        due("22: it has a row", x.cell(1, 0, 1), LOST);
        due("22: it has a row", x.fault(), 2);
        due("22: it has no cell", x.put(1, 0, 1), -13);
        x.put(0, 3, 7);
        due("22: size", x.sheet(0, 0, -1), -14);
        due("22: as it was", x.cell(0, 3, 2), 7);
        due("22: outside", x.sheet(0, 0, 61), -2);
        due("22: as it was", x.cell(0, 3, 2), 7);
        due("22: anew", x.sheet(0, 2, 5), 1);
        due("22: 0 at first", x.cell(0, 3, 2), 0);
        due("22: shorter", x.cell(0, 5, 2), LOST);
        x.lose(0);
        x.sheet(3, 1, 1);
        due("22: of another lane", x.cell(3, 0, 1), 0);
    }

    private static void lose() {
        LinenLaw x = new LinenLaw();
        x.sheet(2, 0, 3);
        x.put(2, 9, 0);
        due("23: had one", x.lose(2), 1);
        due("23: names no faults", x.fault(), 3);
        due("23: had none", x.lose(2), 0);
        due("23: nothing is there", x.put(2, 0, 0), -11);
        due("23: sheet 4", x.lose(4), -1);
        due("23: sheet -1", x.lose(-1), -1);
        x.sheet(2, 0, 0);
        due("23: a row of none is one", x.lose(2), 1);
    }

    private static void put() {
        LinenLaw x = new LinenLaw();
        due("24: sheet 4", x.put(4, -1, 0), -1);
        due("24: sheet -1", x.put(-1, 0, 0), -1);
        due("24: null ahead of index", x.put(0, -1, 0), -11);
        due("24: fault", x.fault(), 1);
        int[] numbers = {0, 127, 128, 255, 256, -129, 32767, 32768, 65535, 70001, Integer.MIN_VALUE, -1};
        for (int lane = 0; lane < 3; lane++) {
            x.sheet(lane, lane, 2);
            due("24: i -1", x.put(lane, -1, 1), -13);
            due("24: i 2", x.put(lane, 2, 1), -13);
            due("24: i far off", x.put(lane, Integer.MIN_VALUE, 1), -13);
            due("24: fault", x.fault(), 3);
            for (int v : numbers) {
                due("24: put", x.put(lane, 1, v), 1);
                int cut = lane == 0 ? (byte) v : lane == 1 ? (short) v : v;
                due("24: " + v + " in lane " + lane, x.cell(lane, 1, lane), cut);
            }
            due("24: no other", x.cell(lane, 0, lane), 0);
            due("24: fault", x.fault(), 0);
        }
    }

    private static void cell() {
        LinenLaw x = new LinenLaw();
        due("25: sheet 4", x.cell(4, 0, 0), LOST);
        due("25: fault of a refused one", x.fault(), 0);
        due("25: sheet -1", x.cell(-1, 0, 0), LOST);
        due("25: null", x.cell(0, -1, 1), LOST);
        due("25: fault", x.fault(), 1);
        due("25: lane 3", x.cell(0, 0, 3), LOST);
        due("25: outside is no fault", x.fault(), 0);
        due("25: lane -1", x.cell(0, 0, -1), LOST);
        due("25: outside is no fault", x.fault(), 0);
        x.sheet(0, 1, 2);
        x.put(0, 1, -5);
        due("25: cast ahead of index", x.cell(0, -1, 2), LOST);
        due("25: fault", x.fault(), 2);
        due("25: i -1", x.cell(0, -1, 1), LOST);
        due("25: fault", x.fault(), 3);
        due("25: i 1", x.cell(0, 1, 1), -5);
        due("25: fault", x.fault(), 0);
        due("25: i 2", x.cell(0, 2, 1), LOST);
        due("25: fault", x.fault(), 3);
        due("25: i far off", x.cell(0, Integer.MAX_VALUE, 1), LOST);
        due("25: fault", x.fault(), 3);
    }

    private static void copy() {
        LinenLaw x = new LinenLaw();
        due("26: sheet 4", x.copy(4, -1, 0, -1, -1), -1);
        due("26: sheet -1", x.copy(-1, 0, 0, 0, 0), -1);
        due("26: other 4", x.copy(0, 0, 4, 0, 0), -1);
        due("26: other -1", x.copy(0, 0, -1, 0, 0), -1);
        due("26: fault", x.fault(), 0);
        due("26: null", x.copy(0, 0, 1, 0, 0), -11);
        Desk.lay(x, 0, Desk.SHORTS, 1, 2, 300, 4);
        due("26: null of the other", x.copy(0, -1, 1, 0, 0), -11);
        due("26: null of the first", x.copy(1, 0, 0, -1, 0), -11);
        due("26: fault", x.fault(), 1);
        Desk.lay(x, 1, Desk.INTS, 9, 9);
        due("26: cast ahead of index", x.copy(0, -1, 1, 0, 0), -12);
        due("26: fault", x.fault(), 2);
        Desk.lay(x, 1, Desk.SHORTS, 9, 9, 9);
        int far = Integer.MAX_VALUE;
        int[][] beyond = {
            {-1, 0, 1}, {0, -1, 1}, {0, 0, -1}, {0, 0, 4}, {3, 0, 2}, {0, 2, 2}, {5, 0, 0}, {0, 4, 0},
            {-1, 0, 0}, {0, -1, 0}, {1, 0, far}, {far, far, far}, {far, 0, 1}, {0, far, 1}, {0, 0, Integer.MIN_VALUE},
        };
        for (int[] b : beyond) {
            due("26: index " + b[0] + " " + b[1] + " " + b[2], x.copy(0, b[0], 1, b[1], b[2]), -13);
            due("26: fault", x.fault(), 3);
        }
        due("26: as it was", x.cell(1, 0, 1) + x.cell(1, 1, 1) + x.cell(1, 2, 1), 27);
        due("26: two", x.copy(0, 2, 1, 1, 2), 2);
        due("26: fault", x.fault(), 0);
        due("26: goes", x.cell(1, 1, 1), 300);
        due("26: goes", x.cell(1, 2, 1), 4);
        due("26: no other", x.cell(1, 0, 1), 9);
        due("26: none, at the ends", x.copy(0, 4, 1, 3, 0), 0);
    }

    private static void copyOverItself() {
        LinenLaw x = new LinenLaw();
        Desk.lay(x, 3, Desk.BYTES, 1, 2, 3, 4, 5);
        due("26: up", x.copy(3, 0, 3, 1, 4), 4);
        int[] up = {1, 1, 2, 3, 4};
        for (int i = 0; i < 5; i++) {
            due("26: as they were, up", x.cell(3, i, 0), up[i]);
        }
        due("26: down", x.copy(3, 2, 3, 0, 3), 3);
        int[] down = {2, 3, 4, 3, 4};
        for (int i = 0; i < 5; i++) {
            due("26: as they were, down", x.cell(3, i, 0), down[i]);
        }
    }

    private static void tell() {
        int[] told = {6, 104, 110};
        int[] traces = {1, 2 * 31 + 1, ((3 * 31 + 2) * 31 + 1) * 31 + 1};
        for (int l = 0; l < 3; l++) {
            LinenLaw x = Desk.of(ONE);
            due("27: of " + l, x.tell(l), told[l]);
            due("27: trace of " + l, x.trace(), traces[l]);
            due("27: nothing is changed", x.ofLinen(l, 2), 6 - (l == 1 ? 2 : l == 2 ? 1 : 0));
        }
        LinenLaw x = Desk.of(ONE);
        due("27: linen 4", x.tell(4), -1);
        due("27: linen -1", x.tell(-1), -1);
        due("27: no trace", x.trace(), 0);
    }

    private static void knot() {
        LinenLaw x = Desk.of(ONE);
        due("28: of 0", x.knot(0), 0);
        due("28: trace", x.trace(), 4);
        due("28: of 1", x.knot(1), 1);
        due("28: trace", x.trace(), 4 * 31 + 4);
        due("28: of 2", x.knot(2), 30);
        due("28: trace", x.trace(), 128 * 31 + 5);
        due("28: of 3", x.knot(3), 3);
        due("28: linen 4", x.knot(4), -1);
        due("28: linen -1", x.knot(-1), -1);
        due("28: trace", x.trace(), (128 * 31 + 5) * 31 + 4);
    }

    private static void as() {
        LinenLaw x = Desk.of(ONE);
        for (int l = 0; l < 4; l++) {
            int kind = l == 3 ? 0 : l;
            for (int as = 0; as < 3; as++) {
                due("29: " + l + " as " + as, x.as(l, as), kind >= as ? 1 : -12);
                due("29: fault", x.fault(), kind >= as ? 0 : 2);
            }
        }
        due("29: linen 4", x.as(4, 3), -1);
        due("29: linen -1", x.as(-1, 0), -1);
        x.as(0, 2);
        due("29: kind 3", x.as(0, 3), -2);
        due("29: fault", x.fault(), 0);
        due("29: kind -1", x.as(0, -1), -2);
        due("29: no trace", x.trace(), 0);
    }

    private static void traceWraps() {
        LinenLaw x = Desk.of(ONE);
        int due = 0;
        for (int k = 0; k < 20; k++) {
            x.knot(2);
            due = 31 * due + 5;
            due("30: wraps", x.trace(), due);
        }
        LinenLaw other = Desk.of(ONE);
        due("30: one of its own", other.trace(), 0);
    }

    private static void fault() {
        LinenLaw x = new LinenLaw();
        due("31: ahead of any", x.fault(), 0);
        x.put(0, 0, 0);
        due("31: null", x.fault(), 1);
        due("31: asking keeps it", x.fault(), 1);
        x.lose(9);
        x.laws(0);
        x.many(9);
        x.odds(0, 9);
        x.trace();
        due("31: calls that name none keep it", x.fault(), 1);
        x.sheet(0, 0, 1);
        due("31: none came", x.fault(), 0);
        x.sheet(0, 0, -1);
        due("31: size", x.fault(), 4);
        x.put(4, 0, 0);
        due("31: refused, put", x.fault(), 0);
        x.cell(0, 9, 0);
        due("31: index, of cell", x.fault(), 3);
        x.cell(4, 0, 0);
        due("31: refused, cell", x.fault(), 0);
        x.cell(0, 0, 1);
        due("31: cast, of cell", x.fault(), 2);
        x.sheet(4, 0, 0);
        due("31: refused, sheet", x.fault(), 0);
        x.copy(0, 0, 1, 0, 0);
        due("31: null, of copy", x.fault(), 1);
        x.copy(0, 0, 4, 0, 0);
        due("31: refused, copy", x.fault(), 0);
        x.realm(0, 1, 0, 0);
        due("31: cast, of realm", x.fault(), 2);
        x.as(0, 0);
        due("31: refused, as", x.fault(), 0);
        x.realm(0, 0, 0, -1);
        due("31: size, of realm", x.fault(), 4);
        x.weeping(0, 1, 0, 0, 0);
        due("31: refused, weeping", x.fault(), 0);
        x.realm(0, 0, 2, 0);
        due("31: index, of realm", x.fault(), 3);
        x.realm(0, 0, 0, 1);
        due("31: none came, of realm", x.fault(), 0);
    }

    private static void many() {
        LinenLaw x = Desk.of(ONE);
        x.reading(0, 0, 0);
        x.reading(0, 0, 0);
        int[] due = {4, 3, 6, 2};
        for (int what = 0; what < 4; what++) {
            due("32: " + what, x.many(what), due[what]);
        }
        due("32: what 4", x.many(4), -2);
        due("32: what -1", x.many(-1), -2);
        x.grieve(2, 5);
        due("32: sorrows that are", x.many(2), 11);
        due("32: without a realm", new LinenLaw().many(5), -2);
    }
}
