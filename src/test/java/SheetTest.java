/** Part 5 of the document and promises 22 to 32: sheets, parts. */
public final class SheetTest {
    private static final Doc DOC = new Doc("SheetTest", 5);
    private static final String ONE = "k2103,213;c06;l14;s05;c38";
    private static final int UNKNOWN = LinenLaw.UNKNOWN, OUTSIDE = LinenLaw.OUTSIDE;
    private static final int NO_FAULT = Twins.NO_FAULT, KEPT = Twins.KEPT, CELLS = Twins.CELLS;
    private static final int FAR = Integer.MAX_VALUE;
    private static final long LOST = LinenLaw.LOST;
    private static final int[] NUMBERS = {
        0, 1, -1, 127, 128, -128, -129, 255, 256, 32767, 32768, -32768, -32769, 65535, 65536, 70001, FAR,
        Integer.MIN_VALUE,
    };

    public static void main(String[] args) {
        nothingAtFirst();
        rows();
        lanes();
        trace();
        bodies();
        knots();
        sheet();
        lose();
        put();
        cell();
        cellsIndex();
        copy();
        copyRefuses();
        copysIndex();
        tellAndKnot();
        as();
        traceAsPromised();
        fault();
        faultOfEachCall();
        many();
        DOC.end();
    }

    private static void due(String call, long got, long want) {
        DOC.due(call, got, want);
    }

    private static void dueCells(String call, LinenLaw x, int k, int lane, int... want) {
        for (int i = 0; i < want.length; i++) {
            due(call + ", cell " + i, x.cell(k, i, lane), want[i]);
        }
    }

    private static void nothingAtFirst() {
        DOC.terms("SHEETS 0 .. 3 have nothing (at first),");
        for (int k = 0; k < 4; k++) {
            LinenLaw x = new LinenLaw();
            for (int lane = 0; lane < 3; lane++) {
                due("cell of " + k, x.cell(k, 0, lane), LOST);
                due("fault", x.fault(), 1);
            }
            due("lose " + k, x.lose(k), 0);
            due("a row for " + k, x.sheet(k, 0, 1), 1);
            due("lose " + k, x.lose(k), 1);
        }
        due("sheet 4", new LinenLaw().sheet(4, 0, 1), UNKNOWN);
    }

    private static void rows() {
        DOC.terms("or a row of 0 .. 60 numbers (0 at first) of a LANE:");
        for (int lane = 0; lane < 3; lane++) {
            LinenLaw x = new LinenLaw();
            for (int i = 0; i < 60; i++) {
                due("row of 60", x.sheet(lane, lane, 60), 1);
                due("0 at first", x.cell(lane, i, lane), 0);
                x.put(lane, i, 7);
            }
            due("none at 60", x.cell(lane, 60, lane), LOST);
            due("row of 61", x.sheet(lane, lane, 61), OUTSIDE);
            due("row of 0", x.sheet(lane, lane, 0), 1);
            due("none at 0", x.cell(lane, 0, lane), LOST);
            due("it is beyond", x.fault(), 3);
            due("it is a row", x.lose(lane), 1);
            due("row of 1", x.sheet(lane, lane, 1), 1);
            dueCells("0 again", x, lane, lane, 0);
            due("none at 1", x.cell(lane, 1, lane), LOST);
        }
    }

    private static void lanes() {
        DOC.terms("0 bytes, 1 shorts, 2 ints;");
        int[] most = {127, 32767, FAR};
        for (int lane = 0; lane < 3; lane++) {
            LinenLaw x = new LinenLaw();
            Desk.lay(x, 0, lane, most[lane], -most[lane] - 1);
            dueCells("both ends of " + lane, x, 0, lane, most[lane], -most[lane] - 1);
        }
        DOC.terms("what comes to a cell of it is cut to its LANE (with its sign).");
        for (int lane = 0; lane < 3; lane++) {
            LinenLaw x = new LinenLaw();
            Desk.lay(x, 0, lane, NUMBERS);
            for (int i = 0; i < NUMBERS.length; i++) {
                int v = NUMBERS[i];
                due(v + " in lane " + lane, x.cell(0, i, lane), lane == 0 ? (byte) v : lane == 1 ? (short) v : v);
            }
        }
        LinenLaw x = new LinenLaw();
        Desk.lay(x, 0, Desk.BYTES, 128, 300, -129, 256);
        dueCells("bytes", x, 0, Desk.BYTES, -128, 44, 127, 0);
        Desk.lay(x, 0, Desk.SHORTS, 32768, 70001, -32769, 65536);
        dueCells("shorts", x, 0, Desk.SHORTS, -32768, 4465, 32767, 0);
        due("copy", x.copy(0, 0, 0, 2, 2), 2);
        dueCells("copied ones", x, 0, Desk.SHORTS, -32768, 4465, -32768, 4465);
    }

    private static void trace() {
        DOC.terms("TELLING of LINENS by bodies that leave their number in TRACE (an int that wraps, 0 at first, becomes 31 times it and the number) as they begin:");
        LinenLaw x = Desk.of(ONE);
        due("0 at first", x.trace(), 0);
        x.tell(0);
        due("a 1", x.trace(), 1);
        x.tell(1);
        due("a lace's ahead of its cambric's", x.trace(), (31 + 2) * 31 + 1);
        LinenLaw silk = Desk.of(ONE);
        silk.tell(2);
        due("3, 2, 1, 1", silk.trace(), ((3 * 31 + 2) * 31 + 1) * 31 + 1);
        LinenLaw wraps = Desk.of(ONE);
        int[] due = {5, 160, 4965, 153920, 4771525, 147917280, 290468389, 414585472, -32752251};
        for (int k = 0; k < due.length; k++) {
            wraps.knot(2);
            due("silk's knot, time " + (k + 1), wraps.trace(), due[k]);
        }
        for (int k = 0; k < 100; k++) {
            int was = wraps.trace();
            wraps.knot(0);
            due("it wraps on", wraps.trace(), (int) (31L * was + 4));
        }
        due("each object has its own", Desk.of(ONE).trace(), 0);
    }

    /** What a linen of a kind tells, for each damp, and what it leaves in a trace of 0. */
    private static void dueTelling(char kind, int perDamp, int more, int left) {
        for (int v = 0; v < 10; v++) {
            LinenLaw x = Desk.of("k0000,9;c00;" + kind + "3" + v);
            due("of damp " + v, x.tell(1), perDamp * v + more);
            due("trace of damp " + v, x.trace(), left);
            due("its damp is as it was", x.ofLinen(1, 2), v);
        }
    }

    private static void bodies() {
        DOC.terms("CAMBRIC (1): DAMP.");
        dueTelling('c', 1, 0, 1);
        DOC.terms("LACE (2): what CAMBRIC's gives, and 100.");
        dueTelling('l', 1, 100, 2 * 31 + 1);
        DOC.terms("SILK (3): what LACE's gives, and what CAMBRIC's gives (LACE's left out).");
        dueTelling('s', 2, 100, ((3 * 31 + 2) * 31 + 1) * 31 + 1);
    }

    private static void knots() {
        LinenLaw x = Desk.of("k0000,9;c09;l08;c07;l06;c05");
        LinenLaw silks = Desk.of("k0000,9;s09;s08;s07;s06;s05");
        DOC.terms("KNOTTED by a lent body (4): the LINEN's number;");
        for (int l = 0; l < 5; l++) {
            due("of " + l, x.knot(l), l);
        }
        DOC.terms("SILK ones have their own (5): 30");
        for (int l = 0; l < 5; l++) {
            due("of " + l, silks.knot(l), 30);
        }
        DOC.terms("(these leave their number, too).");
        due("five of the lent body", x.trace(), (((4 * 31 + 4) * 31 + 4) * 31 + 4) * 31 + 4);
        due("five of their own", silks.trace(), (((5 * 31 + 5) * 31 + 5) * 31 + 5) * 31 + 5);
    }

    private static void sheet() {
        DOC.promise(22, "A SHEET gets a new row: 1.");
        LinenLaw x = Twins.made();
        due("in place of none", x.sheet(3, 1, 2), 1);
        dueCells("it has two", x, 3, 1, 0, 0);
        due("of the same lane", x.sheet(1, 1, 2), 1);
        dueCells("anew", x, 1, 1, 0, 0);
        due("shorter", x.cell(1, 2, 1), LOST);
        due("of another lane", x.sheet(0, 2, 60), 1);
        due("longer", x.cell(0, 59, 2), 0);
        due("no byte any more", x.cell(0, 0, 0), LOST);
        due("no fault", x.sheet(0, 0, 60), 1);
        due("no fault", x.fault(), 0);
        due("others are as they were", x.cell(2, 2, 2), 70000);
        DOC.promise(22, "UNKNOWN;");
        Twins.range(DOC, "sheet", 0, 3, UNKNOWN, NO_FAULT, (y, k) -> y.sheet(k, 0, 1));
        Twins.leaves(DOC, "ahead of outside", UNKNOWN, NO_FAULT, y -> y.sheet(4, 3, 61));
        Twins.leaves(DOC, "ahead of size", UNKNOWN, NO_FAULT, y -> y.sheet(-1, 0, -1));
        DOC.promise(22, "OUTSIDE: lane, n above 60;");
        Twins.range(DOC, "lane", 0, 2, OUTSIDE, NO_FAULT, (y, lane) -> y.sheet(1, lane, 1));
        Twins.leaves(DOC, "n 61", OUTSIDE, NO_FAULT, y -> y.sheet(1, 1, 61));
        Twins.leaves(DOC, "n far above", OUTSIDE, NO_FAULT, y -> y.sheet(3, 0, FAR));
        Twins.leaves(DOC, "lane ahead of size", OUTSIDE, NO_FAULT, y -> y.sheet(1, 3, -1));
        due("n 60", Twins.made().sheet(1, 1, 60), 1);
        DOC.promise(22, "SIZE.");
        Twins.leaves(DOC, "n -1", -14, Twins.SIZE, y -> y.sheet(1, 1, -1));
        Twins.leaves(DOC, "n -1, of none", -14, Twins.SIZE, y -> y.sheet(3, 2, -1));
        Twins.leaves(DOC, "n far below", -14, Twins.SIZE, y -> y.sheet(0, 0, Integer.MIN_VALUE));
        due("n 0", Twins.made().sheet(1, 1, 0), 1);
    }

    private static void lose() {
        DOC.promise(23, "A SHEET has nothing: 1; 0: it had nothing.");
        LinenLaw x = Twins.made();
        for (int k = 0; k < 4; k++) {
            due("had one " + k, x.lose(k), k < 3 ? 1 : 0);
            due("it names no faults " + k, x.fault(), k == 0 ? KEPT : 1);
            due("has nothing " + k, x.put(k, 0, 0), -11);
            due("had none " + k, x.lose(k), 0);
        }
        x.sheet(2, 0, 0);
        due("a row of none is one", x.lose(2), 1);
        due("others stay", loseOne(), 300);
        DOC.promise(23, "UNKNOWN.");
        Twins.range(DOC, "sheet", 0, 3, UNKNOWN, KEPT, LinenLaw::lose);
    }

    private static long loseOne() {
        LinenLaw x = Twins.made();
        x.lose(0);
        return x.cell(1, 0, 1);
    }

    private static void put() {
        DOC.promise(24, "Cell i of a SHEET becomes v: 1.");
        LinenLaw x = new LinenLaw();
        for (int lane = 0; lane < 3; lane++) {
            x.sheet(lane, lane, 3);
            due("the first", x.put(lane, 0, 5), 1);
            due("the last", x.put(lane, 2, -6), 1);
            due("no fault", x.fault(), 0);
            dueCells("lane " + lane, x, lane, lane, 5, 0, -6);
            due("the last again", x.put(lane, 2, 8), 1);
            dueCells("lane " + lane, x, lane, lane, 5, 0, 8);
        }
        due("another sheet is as it was", x.put(1, 1, 9) + x.cell(0, 1, 0) + x.cell(2, 1, 2), 1);
        DOC.promise(24, "UNKNOWN;");
        Twins.range(DOC, "sheet", 0, 3, UNKNOWN, NO_FAULT, (y, k) -> y.put(k, 0, 9));
        Twins.leaves(DOC, "ahead of index", UNKNOWN, NO_FAULT, y -> y.put(4, -1, 9));
        DOC.promise(24, "NULL;");
        Twins.leaves(DOC, "alone", -11, Twins.NULL, y -> y.put(3, 0, 9));
        Twins.leaves(DOC, "ahead of index", -11, Twins.NULL, y -> y.put(3, -1, 9));
        DOC.promise(24, "INDEX.");
        Twins.range(DOC, "i of bytes", 0, CELLS - 1, -13, Twins.INDEX, (y, i) -> y.put(0, i, 9));
        Twins.range(DOC, "i of shorts", 0, 2, -13, Twins.INDEX, (y, i) -> y.put(1, i, 9));
        Twins.range(DOC, "i of ints", 0, 2, -13, Twins.INDEX, (y, i) -> y.put(2, i, 9));
        x.sheet(3, 0, 0);
        due("a row of none", x.put(3, 0, 0), -13);
        x.sheet(3, 0, 60);
        due("the last of 60", x.put(3, 59, 1), 1);
        due("one more", x.put(3, 60, 1), -13);
        x.sheet(3, 0, 5);
        due("the fifth of a row of 5 that was one of 60", x.put(3, 4, 1), 1);
        due("the sixth", x.put(3, 5, 1), -13);
    }

    private static void cell() {
        DOC.promise(25, "Cell i of what a SHEET has, taken as a row of a LANE.");
        Twins.leaves(DOC, "the first of bytes", 'k', NO_FAULT, x -> x.cell(0, 0, 0));
        Twins.leaves(DOC, "the last of bytes", '8', NO_FAULT, x -> x.cell(0, CELLS - 1, 0));
        Twins.leaves(DOC, "of shorts", -2, NO_FAULT, x -> x.cell(1, 1, 1));
        Twins.leaves(DOC, "of ints", 70000, NO_FAULT, x -> x.cell(2, 2, 2));
        DOC.promise(25, "LOST: UNKNOWN,");
        LinenLaw all = new LinenLaw();
        for (int k = 0; k < 4; k++) {
            Desk.lay(all, k, Desk.BYTES, 10 + k);
            due("there is " + k, all.cell(k, 0, 0), 10 + k);
        }
        for (int k : new int[] {-1, 4, FAR, Integer.MIN_VALUE}) {
            Twins.leaves(DOC, "there is no " + k, LOST, NO_FAULT, x -> x.cell(k, 0, 0));
        }
        Twins.leaves(DOC, "ahead of outside and index", LOST, NO_FAULT, x -> x.cell(4, -1, 3));
        DOC.promise(25, "OUTSIDE: lane;");
        for (int lane : new int[] {-1, 3, FAR, Integer.MIN_VALUE}) {
            Twins.leaves(DOC, "lane " + lane, LOST, NO_FAULT, x -> x.cell(0, 0, lane));
        }
        Twins.leaves(DOC, "ahead of null", LOST, NO_FAULT, x -> x.cell(3, 0, 3));
        Twins.leaves(DOC, "ahead of index", LOST, NO_FAULT, x -> x.cell(0, -1, -1));
    }

    private static void cellsIndex() {
        DOC.promise(25, "FAULTS CAST (nothing is no CAST),");
        for (int k = 0; k < 4; k++) {
            for (int lane = 0; lane < 3; lane++) {
                int fault = k == 3 ? Twins.NULL : k != lane ? Twins.CAST : Twins.INDEX;
                int sheet = k;
                int as = lane;
                Twins.leaves(DOC, "sheet " + k + " as " + lane + ", ahead of index", LOST, fault,
                    x -> x.cell(sheet, -1, as));
            }
        }
        Twins.leaves(DOC, "of a good place", LOST, Twins.CAST, x -> x.cell(0, 0, 2));
        LinenLaw none = new LinenLaw();
        none.sheet(0, 0, 0);
        due("of a row of none", none.cell(0, 0, 1), LOST);
        due("fault", none.fault(), Twins.CAST);
        DOC.promise(25, "NULL,");
        Twins.leaves(DOC, "alone", LOST, Twins.NULL, x -> x.cell(3, 0, 0));
        Twins.leaves(DOC, "ahead of index", LOST, Twins.NULL, x -> x.cell(3, 60, 2));
        DOC.promise(25, "INDEX.");
        Twins.range(DOC, "i of bytes", 0, CELLS - 1, LOST, Twins.INDEX, (x, i) -> x.cell(0, i, 0));
        Twins.range(DOC, "i of shorts", 0, 2, LOST, Twins.INDEX, (x, i) -> x.cell(1, i, 1));
        Twins.range(DOC, "i of ints", 0, 2, LOST, Twins.INDEX, (x, i) -> x.cell(2, i, 2));
        due("of a row of none", none.cell(0, 0, 0), LOST);
        due("fault", none.fault(), Twins.INDEX);
    }

    private static void copy() {
        DOC.promise(26, "n cells of a SHEET from i on go to another one (perhaps the same) from j on, as they were: n.");
        for (int lane = 0; lane < 3; lane++) {
            LinenLaw x = new LinenLaw();
            Desk.lay(x, 0, lane, 1, 2, -3, 4);
            Desk.lay(x, 1, lane, 9, 9, 9);
            due("the last two to the last two", x.copy(0, 2, 1, 1, 2), 2);
            due("no fault", x.fault(), 0);
            dueCells("to", x, 1, lane, 9, -3, 4);
            dueCells("from", x, 0, lane, 1, 2, -3, 4);
            due("all to the first", x.copy(1, 0, 0, 0, 3), 3);
            dueCells("to", x, 0, lane, 9, -3, 4, 4);
            due("none", x.copy(0, 0, 1, 0, 0), 0);
            due("none, from the ends to the ends", x.copy(0, 4, 1, 3, 0), 0);
            dueCells("as it was", x, 1, lane, 9, -3, 4);
            Desk.lay(x, 3, lane, 1, 2, 3, 4, 5);
            due("up, in the same", x.copy(3, 0, 3, 1, 4), 4);
            dueCells("as they were, up", x, 3, lane, 1, 1, 2, 3, 4);
            due("down, in the same", x.copy(3, 2, 3, 0, 3), 3);
            dueCells("as they were, down", x, 3, lane, 2, 3, 4, 3, 4);
            due("all to where they are", x.copy(3, 0, 3, 0, 5), 5);
            dueCells("as they were, all", x, 3, lane, 2, 3, 4, 3, 4);
        }
        Twins.leaves(DOC, "nothing else is changed", 3, NO_FAULT, x -> x.copy(1, 0, 1, 0, 3));
    }

    private static void copyRefuses() {
        DOC.promise(26, "UNKNOWN;");
        Twins.range(DOC, "sheet", 0, 3, UNKNOWN, NO_FAULT, (x, k) -> x.copy(k, 0, 0, 1, 1));
        Twins.range(DOC, "other", 0, 3, UNKNOWN, NO_FAULT, (x, k) -> x.copy(0, 0, k, 1, 1));
        Twins.leaves(DOC, "ahead of null and index", UNKNOWN, NO_FAULT, x -> x.copy(3, -1, 4, -1, -1));
        Twins.leaves(DOC, "ahead of null and index", UNKNOWN, NO_FAULT, x -> x.copy(4, -1, 3, -1, -1));
        DOC.promise(26, "FAULTS NULL (the first, the other),");
        for (int[] sheets : new int[][] {{3, 0}, {0, 3}, {3, 3}, {3, 2}, {2, 3}}) {
            String names = sheets[0] + " to " + sheets[1];
            Twins.leaves(DOC, names, -11, Twins.NULL, x -> x.copy(sheets[0], 0, sheets[1], 0, 0));
            Twins.leaves(DOC, names + " ahead of index", -11, Twins.NULL, x -> x.copy(sheets[0], -1, sheets[1], -1, -1));
        }
        DOC.promise(26, "CAST (unlike LANES),");
        for (int from = 0; from < 3; from++) {
            for (int to = 0; to < 3; to++) {
                int fault = from == to ? Twins.INDEX : Twins.CAST;
                int k = from;
                int other = to;
                Twins.leaves(DOC, from + " to " + to + ", i below 0", -10 - fault, fault, x -> x.copy(k, -1, other, 0, 1));
                Twins.leaves(DOC, from + " to " + to + ", j below 0", -10 - fault, fault, x -> x.copy(k, 0, other, -1, 1));
                Twins.leaves(DOC, from + " to " + to + ", n below 0", -10 - fault, fault, x -> x.copy(k, 0, other, 0, -1));
            }
        }
        Twins.leaves(DOC, "of no cells", -12, Twins.CAST, x -> x.copy(0, 0, 1, 0, 0));
        Twins.leaves(DOC, "of good ones", -12, Twins.CAST, x -> x.copy(1, 0, 2, 0, 3));
    }

    private static void copysIndex() {
        DOC.promise(26, "INDEX: i, j, n below 0 or beyond.");
        Twins.range(DOC, "i of 20 cells", 0, 5, -13, Twins.INDEX, (x, i) -> x.copy(0, i, 0, 1, 20));
        Twins.range(DOC, "j of 20 cells", 0, 5, -13, Twins.INDEX, (x, j) -> x.copy(0, 1, 0, j, 20));
        Twins.range(DOC, "n from i", 0, 5, -13, Twins.INDEX, (x, n) -> x.copy(0, 20, 0, 0, n));
        Twins.range(DOC, "n to j", 0, 5, -13, Twins.INDEX, (x, n) -> x.copy(0, 0, 0, 20, n));
        Twins.range(DOC, "i of none", 0, 3, -13, Twins.INDEX, (x, i) -> x.copy(1, i, 1, 0, 0));
        Twins.range(DOC, "j of none", 0, 3, -13, Twins.INDEX, (x, j) -> x.copy(1, 0, 1, j, 0));
        int[][] beyond = {{FAR, FAR, FAR}, {1, 0, FAR}, {0, 1, FAR}, {FAR, 0, 1}, {0, FAR, 1}, {-1, -1, -1}};
        for (int[] b : beyond) {
            Twins.leaves(DOC, b[2] + " from " + b[0] + " to " + b[1], -13, Twins.INDEX, x -> x.copy(2, b[0], 2, b[1], b[2]));
        }
        LinenLaw x = new LinenLaw();
        Desk.lay(x, 0, Desk.INTS, 1, 2, 3, 4);
        Desk.lay(x, 1, Desk.INTS, 5, 6);
        due("as many as the first has, not the other", x.copy(0, 0, 1, 0, 3), -13);
        due("as many as the other has, not the first", x.copy(1, 0, 0, 0, 3), -13);
        dueCells("the first is as it was", x, 0, Desk.INTS, 1, 2, 3, 4);
        dueCells("the other is as it was", x, 1, Desk.INTS, 5, 6);
    }

    private static void tellAndKnot() {
        DOC.promise(27, "TELLING of a LINEN.");
        LinenLaw x = Desk.of(ONE);
        int[] told = {6, 104, 110, 8};
        for (int l = 0; l < 4; l++) {
            due("of " + l, x.tell(l), told[l]);
        }
        due("by the office it is no other", x.give(0, 3) + x.tell(0), 6);
        due("it names no faults", kept(0), KEPT);
        DOC.promise(27, "UNKNOWN.");
        Twins.range(DOC, "linen", 0, 3, UNKNOWN, KEPT, LinenLaw::tell);
        DOC.promise(28, "How it is KNOTTED.");
        LinenLaw y = Desk.of(ONE);
        int[] knotted = {0, 1, 30, 3};
        int[] traces = {4, 128, 3973, 123167};
        for (int l = 0; l < 4; l++) {
            due("of " + l, y.knot(l), knotted[l]);
            due("trace", y.trace(), traces[l]);
        }
        due("it names no faults", kept(1), KEPT);
        DOC.promise(28, "UNKNOWN.");
        Twins.range(DOC, "linen", 0, 3, UNKNOWN, KEPT, LinenLaw::knot);
    }

    /** fault() behind a telling, or a knot. */
    private static int kept(int which) {
        LinenLaw x = Twins.made();
        int answer = which == 0 ? x.tell(0) : x.knot(0);
        return answer < 0 ? answer : x.fault();
    }

    private static void as() {
        DOC.promise(29, "A LINEN, taken as one of a kind: 1.");
        for (int l = 0; l < 4; l++) {
            int of = l;
            int kind = l == 3 ? 0 : l;
            for (int as = 0; as <= kind; as++) {
                int one = as;
                Twins.leaves(DOC, l + " as " + as, 1, NO_FAULT, x -> x.as(of, one));
            }
        }
        DOC.promise(29, "UNKNOWN;");
        Twins.range(DOC, "linen", 0, 3, UNKNOWN, NO_FAULT, (x, l) -> x.as(l, 0));
        Twins.leaves(DOC, "ahead of outside", UNKNOWN, NO_FAULT, x -> x.as(4, 3));
        Twins.leaves(DOC, "ahead of cast", UNKNOWN, NO_FAULT, x -> x.as(-1, 2));
        DOC.promise(29, "OUTSIDE;");
        Twins.range(DOC, "kind", 0, 2, OUTSIDE, NO_FAULT, (x, kind) -> x.as(2, kind));
        Twins.leaves(DOC, "ahead of cast", OUTSIDE, NO_FAULT, x -> x.as(0, 3));
        DOC.promise(29, "CAST: it is none.");
        for (int[] none : new int[][] {{0, 1}, {0, 2}, {1, 2}, {3, 1}, {3, 2}}) {
            Twins.leaves(DOC, none[0] + " as " + none[1], -12, Twins.CAST, x -> x.as(none[0], none[1]));
        }
    }

    private static void traceAsPromised() {
        DOC.promise(30, "TRACE.");
        LinenLaw x = Desk.of(ONE);
        due("at first", x.trace(), 0);
        x.knot(0);
        due("behind one", x.trace(), 4);
        due("asking keeps it", x.trace(), 4);
        x.as(0, 0);
        x.ofLinen(0, 2);
        due("others leave nothing", x.trace(), 4);
        Twins.leaves(DOC, "nothing is changed", traceOfTwins(), KEPT, LinenLaw::trace);
    }

    private static long traceOfTwins() {
        return ((((3 * 31 + 2) * 31 + 1) * 31 + 1) * 31) + 4;
    }

    private static void fault() {
        DOC.promise(31, "The FAULT of the latest call that names one:");
        LinenLaw x = new LinenLaw();
        x.put(0, 0, 0);
        due("null", x.fault(), 1);
        due("asking keeps it", x.fault(), 1);
        x.sheet(0, 0, -1);
        due("the latest", x.fault(), 4);
        x.lose(9);
        x.lose(0);
        x.laws(0);
        x.keep();
        x.many(9);
        x.odds(0, 9);
        x.tell(0);
        x.knot(0);
        x.trace();
        x.back(9);
        x.grieve(9, 9);
        due("calls that name none keep it", x.fault(), 4);
        Twins.leaves(DOC, "those that answer keep it, too", 15, KEPT, y -> y.laws(0));
        DOC.promise(31, "0: it came to none, or was refused");
        x.sheet(0, 0, 1);
        due("none came", x.fault(), 0);
        x.put(0, 1, 0);
        due("index", x.fault(), 3);
        x.put(4, 0, 0);
        due("refused", x.fault(), 0);
        DOC.promise(31, "(0 ahead of any).");
        due("of a new object", new LinenLaw().fault(), 0);
        LinenLaw y = new LinenLaw();
        y.keep();
        due("behind calls that name none", y.fault(), 0);
    }

    private static void faultOfEachCall() {
        DOC.promise(31, "The FAULT of the latest call that names one:");
        Twins.leaves(DOC, "realm, cast", -12, 2, x -> x.realm(0, 1, 0, 0));
        Twins.leaves(DOC, "realm, null", -11, 1, x -> x.realm(3, 1, 0, 0));
        Twins.leaves(DOC, "realm, size", -14, 4, x -> x.realm(0, 0, 0, -1));
        Twins.leaves(DOC, "realm, index", -13, 3, x -> x.realm(0, 0, -1, 0));
        Twins.leaves(DOC, "weeping, cast", -12, 2, x -> x.weeping(0, 1, 0, 0, 0));
        Twins.leaves(DOC, "weeping, null", -11, 1, x -> x.weeping(3, 1, 0, 0, 0));
        Twins.leaves(DOC, "weeping, index", -13, 3, x -> x.weeping(0, 0, -1, 0, 0));
        Twins.leaves(DOC, "sheet, size", -14, 4, x -> x.sheet(0, 0, -1));
        Twins.leaves(DOC, "put, null", -11, 1, x -> x.put(3, 0, 0));
        Twins.leaves(DOC, "put, index", -13, 3, x -> x.put(0, -1, 0));
        Twins.leaves(DOC, "cell, cast", LOST, 2, x -> x.cell(0, 0, 1));
        Twins.leaves(DOC, "cell, null", LOST, 1, x -> x.cell(3, 0, 0));
        Twins.leaves(DOC, "cell, index", LOST, 3, x -> x.cell(0, -1, 0));
        Twins.leaves(DOC, "copy, null", -11, 1, x -> x.copy(3, 0, 0, 0, 0));
        Twins.leaves(DOC, "copy, cast", -12, 2, x -> x.copy(0, 0, 1, 0, 0));
        Twins.leaves(DOC, "copy, index", -13, 3, x -> x.copy(0, 0, 0, 0, -1));
        Twins.leaves(DOC, "as, cast", -12, 2, x -> x.as(0, 1));
        DOC.promise(31, "0: it came to none, or was refused");
        Twins.leaves(DOC, "realm of no text", -100, 0, x -> x.realm(0, 0, 0, 0));
        Twins.leaves(DOC, "weeping", 11, 0, x -> x.weeping(2, 2, 0, 1, 0));
        Twins.leaves(DOC, "weeping of no act", OUTSIDE, 0, x -> x.weeping(2, 2, 2, 1, 0));
        Twins.leaves(DOC, "put", 1, 0, x -> x.put(1, 2, 7));
        Twins.leaves(DOC, "cell", 7, 0, x -> x.cell(1, 2, 1));
        Twins.leaves(DOC, "copy", 0, 0, x -> x.copy(1, 3, 1, 3, 0));
        Twins.leaves(DOC, "as", 1, 0, x -> x.as(2, 2));
    }

    private static void many() {
        DOC.promise(32, "How many: 0 LINENS, 1 DAYS, 2 SORROWS together, 3 READINGS");
        LinenLaw x = Desk.of(ONE);
        x.reading(0, 0, 0);
        x.reading(0, 0, 0);
        int[] due = {4, 3, 6, 2};
        for (int what = 0; what < 4; what++) {
            due("what " + what, x.many(what), due[what]);
        }
        x.grieve(2, 5);
        due("sorrows that are", x.many(2), 11);
        LinenLaw most = Desk.of("k9999,000000;c00;c00;c00;c00;c00");
        due("the most linens, days, sorrows", most.many(0) * 1000 + most.many(1) * 100 + most.many(2), 5636);
        LinenLaw least = Desk.of("k0000,0;c00");
        due("the least linens, days, sorrows", least.many(0) * 1000 + least.many(1) * 100 + least.many(2), 1100);
        DOC.promise(32, "(0 all without a REALM).");
        for (int what = 0; what < 4; what++) {
            due("what " + what, new LinenLaw().many(what), 0);
        }
        DOC.promise(32, "OUTSIDE.");
        Twins.range(DOC, "what", 0, 3, LinenLaw::many);
        due("without a realm", new LinenLaw().many(4), OUTSIDE);
        due("without a realm", new LinenLaw().many(-1), OUTSIDE);
    }
}
