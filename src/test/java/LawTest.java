/** Promises 9 to 11: what is law. */
public final class LawTest {
    private static final Check CHECK = new Check("LawTest");
    private static final String ONE = "k2103,213;c06;l14;s05;c38";

    private static void due(String call, long got, long want) {
        CHECK.due(call, got, want);
    }

    public static void main(String[] args) {
        damp();
        laws();
        weepingAnswers();
        weepingsFirstWrong();
        weepingsActs();
        weepingRefuses();
        CHECK.end();
    }

    private static void damp() {
        LinenLaw x = Desk.of(ONE);
        int[][] rows = {{6, 4, 3, 0}, {4, 1, 0, 0}, {5, 0, 0, 0}, {8, 6, 5, 2}};
        for (int l = 0; l < 4; l++) {
            for (int t = 0; t <= 3; t++) {
                due("9: " + l + " behind " + t, x.damp(l, t), rows[l][t]);
            }
        }
        due("9: linen 4", x.damp(4, 4), -1);
        due("9: linen -1", x.damp(-1, 0), -1);
        due("9: t 4", x.damp(0, 4), -2);
        due("9: t -1", x.damp(0, -1), -2);
        x.warm(0, 0);
        due("9: by the heat that is", x.damp(0, 3), 2);
    }

    private static void laws() {
        LinenLaw x = Desk.of(ONE);
        int[] due = {15, 11, 9, 8};
        for (int t = 0; t <= 3; t++) {
            due("10: behind " + t, x.laws(t), due[t]);
        }
        due("10: t 4", x.laws(4), -2);
        due("10: t -1", x.laws(-1), -2);
        due("10: a dry one is no law", Desk.of("k0000,0;c00;c01").laws(0), 2);
        due("10: state ahead of outside", new LinenLaw().laws(-1), -3);
    }

    private static void weepingAnswers() {
        LinenLaw x = Desk.of(ONE);
        int[] row = {2, 40, 11, 40, 33};
        due("11: laws", Desk.weep(x, 0, row), 11);
        due("11: first wrong", Desk.weep(x, 1, row), -9);
        due("11: lasting", Desk.weep(x, 2, row), 11);
        due("11: acts of weepers", Desk.weep(x, 3, row), 3);
        int[] damps = {3, 2, 0, 8, -9};
        for (int l = 0; l < 5; l++) {
            due("11: damp of " + l, Desk.weep(x, 10 + l, row), damps[l]);
        }
        int[] sorrows = {1, 0, 0, 2};
        for (int w = 0; w < 4; w++) {
            due("11: sorrow of " + w, Desk.weep(x, 20 + w, row), sorrows[w]);
        }
        due("11: nothing is changed", x.many(2) * 100 + x.ofLinen(2, 2), 605);
        due("11: no acts, laws", Desk.weep(x, 0), 15);
        due("11: no acts, lasting", Desk.weep(x, 2), 15);
        due("11: no acts, acts", Desk.weep(x, 3), 0);
        LinenLaw dry = Desk.of("k9000,00;c00;c05");
        due("11: lasting ahead of any evening", Desk.weep(dry, 2), 3);
        due("11: lasting behind one", Desk.weep(dry, 2, 40), 2);
        due("11: lasting is behind each", Desk.weep(dry, 2, 40, 0, 40), 2);
        due("11: law again", Desk.weep(dry, 0, 40, 0, 40), 3);
        due("11: lasting by tears", Desk.weep(dry, 2, 0, 40, 40), 3);
        due("11: the wrong office", Desk.weep(dry, 11, 1), 8);
        due("11: dry by a wrong weeper", Desk.weep(Desk.of("k0100,0;c05"), 10, 10), 0);
        due("11: sorrow of a wrong weeper", Desk.weep(Desk.of("k0100,0;c05"), 21, 10), 0);
        due("11: wet again", Desk.weep(Desk.of("k1100,0;c05"), 10, 10, 0), 3);
        due("11: 9 at most", Desk.weep(dry, 11, 1, 1, 1), 9);
        due("11: tears are no law before", Desk.weep(dry, 0, 0, 10), -101);
        due("11: lasting knows only evenings", Desk.weep(Desk.of("k1100,0;c05"), 2, 40, 10), 1);
        due("11: what it is then", Desk.weep(Desk.of("k1100,0;c05"), 0, 40, 10), 0);
        due("11: by the office that is", weepBehindGiving(), 8);
    }

    private static int weepBehindGiving() {
        LinenLaw x = Desk.of("k0100,0;c05");
        x.give(0, 1);
        return Desk.weep(x, 10, 10);
    }

    private static void weepingsFirstWrong() {
        LinenLaw x = Desk.of("k1000,01;c05;l14");
        due("11: no sorrow", Desk.weep(x, 1, 40, 11), 1);
        due("11: sorrow is gone", Desk.weep(x, 1, 0, 0, 11), 1);
        due("11: an evening too many", Desk.weep(x, 1, 40, 40, 40, 0), 2);
        due("11: weeping behind the last evening", Desk.weep(x, 1, 40, 40, 0), -9);
        due("11: laws of it", Desk.weep(x, 0, 40, 40, 0), 3);
        for (int what : new int[] {0, 2, 3, 10, 11, 12, 14, 20, 23}) {
            due("11: of a wrong one " + what, Desk.weep(x, what, 40, 0, 0), -102);
        }
        due("11: wrong at 0", Desk.weep(x, 0, 30), -100);
        due("11: no fault", x.fault(), 0);
        int[] row = new int[40];
        java.util.Arrays.fill(row, 40);
        due("11: 40 acts", Desk.weep(x, 1, row), 2);
    }

    private static void weepingsActs() {
        LinenLaw x = Desk.of("k9999,01;c05;l14");
        for (int code : new int[] {-1, -10, 2, 12, 32, 39, 41, 50, 400, Integer.MIN_VALUE, Integer.MAX_VALUE}) {
            due("11: no act " + code, Desk.weep(x, 0, 40, code), -2);
            due("11: no fault " + code, x.fault(), 0);
        }
        for (int code : new int[] {0, 1, 10, 11, 20, 21, 30, 31, 40}) {
            due("11: an act " + code, Desk.weep(x, 1, code), -9);
        }
        due("11: no act behind a wrong one", Desk.weep(x, 1, 40, 40, 40, 2), -2);
        Desk.lay(x, 1, Desk.SHORTS, 99, 40, 40, 99);
        due("11: cells from i on", x.weeping(1, Desk.SHORTS, 1, 2, 3), 0);
        due("11: one more", x.weeping(1, Desk.SHORTS, 1, 3, 3), -2);
    }

    private static void weepingRefuses() {
        LinenLaw none = new LinenLaw();
        due("11: unknown ahead of all", none.weeping(4, 3, -1, 41, 4), -1);
        due("11: sheet -1", none.weeping(-1, 0, 0, 0, 0), -1);
        due("11: outside ahead of state", none.weeping(0, 3, 0, 0, 0), -2);
        due("11: state ahead of null", none.weeping(0, 0, -1, 1, 0), -3);
        due("11: state is no fault", none.fault(), 0);
        LinenLaw x = Desk.of(ONE);
        Desk.lay(x, 1, Desk.INTS, 40, 99);
        due("11: lane 3", x.weeping(1, 3, 0, 0, 0), -2);
        due("11: lane -1", x.weeping(1, -1, 0, 0, 0), -2);
        due("11: n 41", x.weeping(1, 2, 0, 41, 0), -2);
        due("11: n -1", x.weeping(1, 2, 0, -1, 0), -2);
        for (int what : new int[] {-1, 4, 9, 15, 19, 24, Integer.MAX_VALUE, Integer.MIN_VALUE}) {
            due("11: what " + what, x.weeping(1, 2, 0, 1, what), -2);
        }
        due("11: cast ahead of index", x.weeping(1, 1, 9, 1, 0), -12);
        due("11: fault", x.fault(), 2);
        due("11: null, of any lane", x.weeping(0, 1, 9, 1, 0), -11);
        due("11: fault", x.fault(), 1);
        due("11: index ahead of no act", x.weeping(1, 2, 1, 2, 0), -13);
        due("11: fault", x.fault(), 3);
        due("11: i below 0, no cells", x.weeping(1, 2, -1, 0, 0), -13);
        due("11: i beyond, no cells", x.weeping(1, 2, 3, 0, 0), -13);
        due("11: no wrap-around", x.weeping(1, 2, Integer.MAX_VALUE, 40, 0), -13);
        due("11: i at the end, no cells", x.weeping(1, 2, 2, 0, 0), 15);
        due("11: fault", x.fault(), 0);
        due("11: index", x.weeping(1, 2, 2, 1, 0), -13);
        due("11: no act", x.weeping(1, 2, 1, 1, 0), -2);
        due("11: fault of no act", x.fault(), 0);
    }
}
