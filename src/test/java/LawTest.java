import java.util.Arrays;

/** Part 2 of the document and promises 9 to 11: what is law. */
public final class LawTest {
    private static final Doc DOC = new Doc("LawTest", 2);
    private static final String ONE = "k2103,213;c06;l14;s05;c38";
    private static final int UNKNOWN = LinenLaw.UNKNOWN, OUTSIDE = LinenLaw.OUTSIDE, STATE = LinenLaw.STATE;
    private static final int NONE = LinenLaw.NONE, NO_FAULT = Twins.NO_FAULT, KEPT = Twins.KEPT;
    private static final int EVENING = 40, FAR = Integer.MAX_VALUE;
    private static final int[] ALL_WHATS = {0, 1, 2, 3, 10, 11, 12, 13, 14, 20, 21, 22, 23};

    public static void main(String[] args) {
        rowOfActs();
        actsOfWeepers();
        evening();
        firstWrongSorrow();
        firstWrongEvening();
        lasting();
        nothingIsChanged();
        damp();
        laws();
        weepingsSets();
        weepingsNumbers();
        weepingOfFirstWrong();
        weepingRefuses();
        weepingsFaults();
        weepingsNoActs();
        DOC.end();
    }

    private static void due(String call, long got, long want) {
        DOC.due(call, got, want);
    }

    private static int[] row(int length, int act) {
        int[] acts = new int[length];
        Arrays.fill(acts, act);
        return acts;
    }

    private static void rowOfActs() {
        DOC.terms("WEEPING told: a row of ACTS, one behind another, from the morning of DAY 0:");
        LinenLaw x = Desk.of("k9900,51;c03;c09");
        due("ahead of the first evening", Desk.weep(x, 10, 0, 40), 1);
        due("behind it", Desk.weep(x, 10, 40, 0), 3);
        due("one evening is of day 0", Desk.weep(x, 11, 40), 4);
        due("two are of days 0, 1", Desk.weep(x, 11, 40, 40), 3);
        due("wept dry, then wet", Desk.weep(x, 10, 10, 0), 3);
        due("wet, then wept dry", Desk.weep(x, 10, 0, 10), 0);
        due("no acts", Desk.weep(x, 10), 3);
        due("each row anew", Desk.weep(x, 11, 40), 4);
    }

    private static void actsOfWeepers() {
        DOC.terms("10 times a WEEPER and a LINEN:");
        for (int w = 0; w < 4; w++) {
            for (int l = 0; l < 5; l++) {
                LinenLaw x = Desk.of("k1111,0;c05;c15;c25;c35;c05");
                for (int other = 0; other < 5; other++) {
                    int due = other != l ? 5 : l % 4 == w ? 8 : 0;
                    due("damp of " + other + " by " + w + " into " + l, Desk.weep(x, 10 + other, 10 * w + l), due);
                }
            }
        }
        DOC.terms("the WEEPER has 1 SORROW less in any case;");
        LinenLaw sad = Desk.of("k9131,0;c05;c19");
        int[][] left = {{8, 9, 9}, {1, 1, 1}, {3, 2, 1}, {1, 1, 1}};
        for (int w = 0; w < 4; w++) {
            due("of " + w + ", by a right one", Desk.weep(sad, 20 + w, 0), left[w][0]);
            due("of " + w + ", by a wrong one", Desk.weep(sad, 20 + w, 20), left[w][1]);
            due("of " + w + ", by two wrong ones", Desk.weep(sad, 20 + w, 20, 21), left[w][2]);
        }
        due("into one as wet as can be", Desk.weep(sad, 21, 11), 0);
        DOC.terms("the LINEN has 3 more of DAMP (9 at most), if its OFFICE is that WEEPER,");
        int[] wetter = {3, 4, 5, 6, 7, 8, 9, 9, 9, 9};
        for (int v = 0; v < 10; v++) {
            LinenLaw of = Desk.of("k0090,0;c0" + v + ";c2" + v);
            due("of damp " + v, Desk.weep(of, 11, 21), wetter[v]);
            due("of damp " + v + ", four times", Desk.weep(of, 11, 21, 21, 21, 21), 9);
            due("no other", Desk.weep(of, 10, 21), v);
        }
        LinenLaw given = Desk.of("k0100,0;c05");
        given.give(0, 1);
        due("by the office that is", Desk.weep(given, 10, 10), 8);
        DOC.terms("else its DAMP is 0 then;");
        for (int v = 0; v < 10; v++) {
            for (int w = 0; w < 4; w++) {
                LinenLaw of = Desk.of("k1111,0;c2" + v);
                due("of damp " + v + " by " + w, Desk.weep(of, 10, 10 * w), w == 2 ? wetter[v] : 0);
            }
        }
        due("and wet again", Desk.weep(Desk.of("k1010,0;c29"), 10, 0, 20), 3);
    }

    private static void evening() {
        DOC.terms("40: it is EVENING.");
        LinenLaw x = Desk.of("k0000,12;c09;l09;s09;c01;c00");
        int[][] damps = {{9, 9, 9, 1, 0}, {8, 7, 5, 0, 0}, {6, 4, 0, 0, 0}};
        for (int evenings = 0; evenings < 3; evenings++) {
            for (int l = 0; l < 5; l++) {
                due(l + " behind " + evenings, Desk.weep(x, 10 + l, row(evenings, EVENING)), damps[evenings][l]);
            }
        }
        due("it is no act of a weeper", Desk.weep(x, 3, 40, 40), 0);
        due("39 is none", Desk.weep(x, 0, 39), OUTSIDE);
        due("41 is none", Desk.weep(x, 0, 41), OUTSIDE);
    }

    private static void firstWrongSorrow() {
        DOC.terms("FIRST WRONG: the first ACT (told by its place in the row, from 0 on) of a WEEPER who has no SORROW,");
        for (int w = 0; w < 4; w++) {
            for (int sorrow = 0; sorrow < 10; sorrow++) {
                LinenLaw x = Desk.of("k0000,0;c05");
                x.grieve(w, sorrow);
                due(w + " has all " + sorrow, Desk.weep(x, 1, row(sorrow, 10 * w)), NONE);
                due(w + " has no more than " + sorrow, Desk.weep(x, 1, row(sorrow + 1, 10 * w)), sorrow);
                due("the first of more", Desk.weep(x, 1, row(sorrow + 9, 10 * w)), sorrow);
            }
        }
        LinenLaw x = Desk.of("k1009,00;c09;c05");
        due("into as wet a one as can be", Desk.weep(x, 1, 0, 0), 1);
        due("by a wrong weeper", Desk.weep(x, 1, 40, 10), 1);
        due("others' sorrow is no matter", Desk.weep(x, 1, 30, 31, 20, 30), 2);
        int[] long40 = row(40, 40);
        LinenLaw sad = Desk.of("k9999,000;c05");
        for (int p = 0; p < 39; p++) {
            long40[p] = p < 36 ? p / 9 * 10 : EVENING;
        }
        long40[39] = 0;
        due("the last of 40", Desk.weep(sad, 1, long40), 39);
        Desk.lay(x, 2, Desk.BYTES, 40, 40, 30, 10, 10);
        due("its place in the row, not in the sheet", x.weeping(2, Desk.BYTES, 2, 3, 1), 1);
    }

    private static void firstWrongEvening() {
        DOC.terms("or an EVENING behind that of the last DAY");
        for (int days = 1; days <= 6; days++) {
            LinenLaw x = Desk.of("k9000," + "0".repeat(days) + ";c05");
            due("all " + days, Desk.weep(x, 1, row(days, EVENING)), NONE);
            due("one more than " + days, Desk.weep(x, 1, row(days + 1, EVENING)), days);
            due("the first of 40", Desk.weep(x, 1, row(40, EVENING)), days);
        }
        LinenLaw x = Desk.of("k1000,0;c05");
        due("ahead of no sorrow", Desk.weep(x, 1, 40, 40, 10), 1);
        due("behind no sorrow", Desk.weep(x, 1, 40, 10, 40), 1);
        due("behind an act of a weeper", Desk.weep(x, 1, 40, 0, 40), 2);
        DOC.terms("(ACTS of WEEPERS behind the last EVENING may be).");
        LinenLaw wept = Desk.of("k2100,00;c05;l14");
        due("first wrong", Desk.weep(wept, 1, 40, 40, 0, 0), NONE);
        due("laws", Desk.weep(wept, 0, 40, 40, 0, 0), 3);
        due("damp", Desk.weep(wept, 10, 40, 40, 0, 0), 9);
        due("a wrong weeper's", Desk.weep(wept, 0, 40, 40, 10), 2);
        due("without sorrow they may not", Desk.weep(wept, 1, 40, 40, 0, 0, 0), 4);
    }

    private static void lasting() {
        DOC.terms("LASTING: LINENS that were LAW behind each EVENING so far");
        LinenLaw x = Desk.of("k9100,01;c00;c01;c02;c19");
        due("behind one", Desk.weep(x, 2, 40), 14);
        due("behind two", Desk.weep(x, 2, 40, 40), 12);
        due("law again is not each", Desk.weep(x, 2, 40, 0, 40), 12);
        due("law again is law", Desk.weep(x, 0, 40, 0, 40), 13);
        due("by tears ahead of each", Desk.weep(x, 2, 0, 40, 1, 40), 15);
        due("wept dry behind the evening", Desk.weep(x, 2, 40, 10), 14);
        due("wept dry behind the last one", Desk.weep(x, 2, 40, 40, 3), 12);
        due("wept dry ahead of an evening", Desk.weep(x, 2, 40, 3, 40), 4);
        due("wept dry, and wet again ahead of it", Desk.weep(x, 2, 3, 13, 40), 14);
        DOC.terms("(as long as there was none: all LINENS).");
        due("no acts", Desk.weep(x, 2), 15);
        due("all dry", Desk.weep(Desk.of("k0000,0;c00;c00"), 2), 3);
        due("wept dry", Desk.weep(x, 2, 3, 2), 15);
        for (int linens = 1; linens <= 5; linens++) {
            LinenLaw of = Desk.of("k0000,9" + ";s00".repeat(linens));
            due("of " + linens, Desk.weep(of, 2), (1 << linens) - 1);
            due("of " + linens + " behind one", Desk.weep(of, 2, 40), 0);
        }
    }

    private static void nothingIsChanged() {
        DOC.terms("(Nothing is changed.)");
        int[] due = {11, NONE, 11, 1, 7, 1, 0, 6, NONE, 1, 1, 4, 3};
        for (int k = 0; k < ALL_WHATS.length; k++) {
            int what = ALL_WHATS[k];
            Twins.leaves(DOC, "what " + what, due[k], NO_FAULT, x -> x.weeping(2, Desk.INTS, 0, 2, what));
        }
        LinenLaw x = Desk.of(ONE);
        for (int time = 0; time < 3; time++) {
            due("the same again", Desk.weep(x, 20, 0, 40), 1);
        }
    }

    private static void damp() {
        DOC.promise(9, "DAMP of a LINEN behind t EVENINGS (0 .. as many as there are DAYS) without TEARS.");
        LinenLaw x = Desk.of(ONE);
        int[][] rows = {{6, 4, 3, 0}, {4, 1, 0, 0}, {5, 0, 0, 0}, {8, 6, 5, 2}};
        for (int l = 0; l < 4; l++) {
            for (int t = 0; t <= 3; t++) {
                due(l + " behind " + t, x.damp(l, t), rows[l][t]);
            }
        }
        x.warm(0, 0);
        due("by the heat that is", x.damp(0, 3), 2);
        due("sorrow is no matter", Desk.of("k9999,5;c03").damp(0, 1), 0);
        for (int days = 1; days <= 6; days++) {
            LinenLaw of = Desk.of("k0000," + "111111".substring(0, days) + ";c09");
            due("as many as " + days, of.damp(0, days), 9 - days);
            due("one more than " + days, of.damp(0, days + 1), OUTSIDE);
        }
        DOC.promise(9, "UNKNOWN;");
        Twins.range(DOC, "linen", 0, 3, UNKNOWN, KEPT, (y, l) -> y.damp(l, 0));
        due("ahead of outside", x.damp(4, 4), UNKNOWN);
        DOC.promise(9, "OUTSIDE.");
        Twins.range(DOC, "t", 0, 3, (y, t) -> y.damp(0, t));
    }

    private static void laws() {
        DOC.promise(10, "LINENS that are LAW behind t EVENINGS (0 .. as many as there are DAYS) without TEARS, as a set.");
        LinenLaw x = Desk.of(ONE);
        int[] due = {15, 11, 9, 8};
        for (int t = 0; t <= 3; t++) {
            due("behind " + t, x.laws(t), due[t]);
        }
        due("dry ones are none", Desk.of("k9999,0;c00;c01;c00;c00;c09").laws(0), 18);
        due("none is", Desk.of("k9999,0;s02;l01").laws(1), 0);
        for (int days = 1; days <= 6; days++) {
            LinenLaw of = Desk.of("k0000," + "111111".substring(0, days) + ";c00;c07");
            due("as many as " + days, of.laws(days), 2);
            due("one more than " + days, of.laws(days + 1), OUTSIDE);
        }
        DOC.promise(10, "STATE: there is no REALM;");
        due("of 0", new LinenLaw().laws(0), STATE);
        due("ahead of outside", new LinenLaw().laws(-1), STATE);
        due("ahead of outside", new LinenLaw().laws(7), STATE);
        DOC.promise(10, "OUTSIDE.");
        Twins.range(DOC, "t", 0, 3, LinenLaw::laws);
    }

    private static void weepingsSets() {
        DOC.promise(11, "WEEPING of n such cells: LINENS that are LAW behind it, as a set (what 0),");
        LinenLaw x = Desk.of(ONE);
        int[] acts = {2, 40, 11, 40, 33};
        due("laws", Desk.weep(x, 0, acts), 11);
        due("of no acts", Desk.weep(x, 0), 15);
        for (int lane = 0; lane < 3; lane++) {
            for (int k = 0; k < 4; k++) {
                Desk.lay(x, k, lane, 99, 40, 40, 99);
                due("cells from i on", x.weeping(k, lane, 1, 2, 0), 9);
                x.lose(k);
            }
        }
        Desk.lay(x, 0, Desk.BYTES, 256 + 40, -216);
        due("a byte is what it was cut to", x.weeping(0, Desk.BYTES, 0, 2, 0), 9);
        DOC.promise(11, "its FIRST WRONG (1; NONE),");
        due("none", Desk.weep(x, 1, acts), NONE);
        due("none, of no acts", Desk.weep(x, 1), NONE);
        due("the first", Desk.weep(x, 1, 20), 0);
        due("the fourth", Desk.weep(x, 1, 40, 40, 40, 40), 3);
        DOC.promise(11, "LASTING, as a set (2),");
        due("lasting", Desk.weep(x, 2, acts), 11);
        due("of no acts", Desk.weep(x, 2), 15);
    }

    private static void weepingsNumbers() {
        LinenLaw x = Desk.of(ONE);
        int[] acts = {2, 40, 11, 40, 33};
        DOC.promise(11, "how many ACTS of WEEPERS (3),");
        due("three", Desk.weep(x, 3, acts), 3);
        due("a wrong weeper's, too", Desk.weep(x, 3, 12, 40, 1, 3), 3);
        due("none", Desk.weep(x, 3), 0);
        due("36", Desk.weep(Desk.of("k9999,0;c00"), 3, allOfFour()), 36);
        DOC.promise(11, "DAMP of LINEN l behind it (10 and l; NONE: there is no such LINEN),");
        int[] damps = {3, 2, 0, 8, NONE};
        for (int l = 0; l < 5; l++) {
            due("of " + l, Desk.weep(x, 10 + l, acts), damps[l]);
        }
        for (int linens = 1; linens <= 5; linens++) {
            LinenLaw of = Desk.of("k0000,9" + ";s07".repeat(linens));
            for (int l = 0; l < 5; l++) {
                due("of " + l + ", of " + linens, Desk.weep(of, 10 + l), l < linens ? 7 : NONE);
            }
        }
        DOC.promise(11, "SORROW of WEEPER w then (20 and w);");
        int[] sorrows = {1, 0, 0, 2};
        for (int w = 0; w < 4; w++) {
            due("of " + w, Desk.weep(x, 20 + w, acts), sorrows[w]);
        }
        due("all of it", Desk.weep(x, 23), 3);
    }

    private static int[] allOfFour() {
        int[] acts = new int[36];
        for (int p = 0; p < acts.length; p++) {
            acts[p] = p / 9 * 10;
        }
        return acts;
    }

    private static void weepingOfFirstWrong() {
        DOC.promise(11, "of one with a FIRST WRONG: -100 less that (but what 1).");
        LinenLaw x = Desk.of("k1000,01;c05;l14");
        for (int what : ALL_WHATS) {
            due("no sorrow at 0, what " + what, Desk.weep(x, what, 30, 40), what == 1 ? 0 : -100);
            due("no sorrow at 2, what " + what, Desk.weep(x, what, 40, 0, 0), what == 1 ? 2 : -102);
            due("an evening too many, what " + what, Desk.weep(x, what, 40, 40, 0, 40), what == 1 ? 3 : -103);
        }
        due("there is no such linen, and no wrong", Desk.weep(x, 12, 40), NONE);
        due("it is no fault", x.fault(), 0);
    }

    private static void weepingRefuses() {
        DOC.promise(11, "UNKNOWN: SHEET;");
        Twins.range(DOC, "sheet", 0, 3, UNKNOWN, NO_FAULT, (x, k) -> x.weeping(k, 0, 0, 0, 0));
        Twins.leaves(DOC, "ahead of outside", UNKNOWN, NO_FAULT, x -> x.weeping(-1, 3, -1, 41, 4));
        due("ahead of state", new LinenLaw().weeping(4, 0, 0, 0, 0), UNKNOWN);
        DOC.promise(11, "OUTSIDE: lane, n (0 .. 40), what (0 .. 3, 10 .. 14, 20 .. 23);");
        Twins.range(DOC, "lane", 0, 2, OUTSIDE, NO_FAULT, (x, lane) -> x.weeping(0, lane, 0, 0, 0));
        Twins.range(DOC, "n", 0, 40, OUTSIDE, NO_FAULT, (x, n) -> x.weeping(0, 0, 0, n, 0));
        LinenLaw of = Desk.of("k0000,000000;c01");
        Desk.lay(of, 0, Desk.BYTES, row(60, EVENING));
        due("40 of 60", of.weeping(0, 0, 20, 40, 1), 6);
        due("41 of 60", of.weeping(0, 0, 0, 41, 1), OUTSIDE);
        for (int[] ends : new int[][] {{0, 3}, {10, 14}, {20, 23}}) {
            Twins.range(DOC, "what", ends[0], ends[1], OUTSIDE, NO_FAULT, (x, what) -> x.weeping(2, 2, 0, 1, what));
        }
        Twins.leaves(DOC, "ahead of cast", OUTSIDE, NO_FAULT, x -> x.weeping(0, 1, 0, 41, 0));
        Twins.leaves(DOC, "ahead of null", OUTSIDE, NO_FAULT, x -> x.weeping(3, 0, 0, 0, 4));
        Twins.leaves(DOC, "n below 0 is no size", OUTSIDE, NO_FAULT, x -> x.weeping(0, 0, 0, -1, 0));
        due("lane ahead of state", new LinenLaw().weeping(0, 3, 0, 0, 0), OUTSIDE);
        due("n ahead of state", new LinenLaw().weeping(0, 0, 0, 41, 0), OUTSIDE);
        due("what ahead of state", new LinenLaw().weeping(0, 0, 0, 0, 24), OUTSIDE);
        DOC.promise(11, "STATE: there is no REALM;");
        LinenLaw none = new LinenLaw();
        due("ahead of null", none.weeping(0, 0, -1, 1, 0), STATE);
        Desk.lay(none, 0, Desk.BYTES, 99);
        due("ahead of cast", none.weeping(0, 1, 0, 0, 0), STATE);
        due("ahead of index", none.weeping(0, 0, -1, 40, 1), STATE);
        due("ahead of no act", none.weeping(0, 0, 0, 1, 2), STATE);
        due("it is no fault", none.fault(), 0);
    }

    private static void weepingsFaults() {
        DOC.promise(11, "CAST;");
        for (int k = 0; k < 4; k++) {
            for (int lane = 0; lane < 3; lane++) {
                int fault = k == 3 ? Twins.NULL : k != lane ? Twins.CAST : Twins.INDEX;
                int sheet = k;
                int as = lane;
                Twins.leaves(DOC, "sheet " + k + " as " + lane, -10 - fault, fault,
                    x -> x.weeping(sheet, as, -1, 1, 0));
            }
        }
        DOC.promise(11, "NULL;");
        for (int lane = 0; lane < 3; lane++) {
            int as = lane;
            Twins.leaves(DOC, "as " + lane, -11, Twins.NULL, x -> x.weeping(3, as, 0, 0, 0));
            Twins.leaves(DOC, "ahead of index, as " + lane, -11, Twins.NULL, x -> x.weeping(3, as, -1, 40, 0));
        }
        DOC.promise(11, "INDEX;");
        int[][] beyond = {{-1, 0}, {-1, 1}, {4, 0}, {3, 1}, {2, 2}, {1, 3}, {0, 4}, {0, 40}, {FAR, 40}, {FAR, 0},
            {Integer.MIN_VALUE, 0}, {Integer.MIN_VALUE, 40}};
        for (int[] b : beyond) {
            Twins.leaves(DOC, b[1] + " from " + b[0] + " on", -13, Twins.INDEX, x -> x.weeping(2, 2, b[0], b[1], 0));
        }
        due("none behind the last", Twins.made().weeping(2, 2, 3, 0, 0), 15);
        due("the first two", Twins.made().weeping(2, 2, 0, 2, 3), 1);
        due("the last", Twins.made().weeping(2, 2, 2, 1, 0), OUTSIDE);
        LinenLaw x = Twins.made();
        x.sheet(3, 0, 0);
        due("none of none", x.weeping(3, 0, 0, 0, 0), 15);
        due("one of none", x.weeping(3, 0, 0, 1, 0), -13);
    }

    private static void weepingsNoActs() {
        DOC.promise(11, "OUTSIDE: any cell is no ACT (a LINEN that there is not, too).");
        int[] far = {FAR, Integer.MIN_VALUE, 400, 1000, 296, -216, 65536, 65576};
        for (int linens = 1; linens <= 5; linens++) {
            LinenLaw x = Desk.of("k9999,0" + ";c05".repeat(linens));
            for (int code = -41; code < 60; code++) {
                boolean act = code == EVENING || code >= 0 && code < EVENING && code % 10 < linens;
                due(code + " of " + linens, Desk.weep(x, 1, code), act ? NONE : OUTSIDE);
            }
            for (int code : far) {
                due(code + " of " + linens, Desk.weep(x, 0, code), OUTSIDE);
            }
        }
        LinenLaw x = Desk.of("k1000,01;c05;l14");
        due("the first of three", Desk.weep(x, 1, 41, 40, 40), OUTSIDE);
        due("the second of three", Desk.weep(x, 1, 40, 2, 40), OUTSIDE);
        due("the last of three", Desk.weep(x, 1, 40, 40, -1), OUTSIDE);
        for (int what : ALL_WHATS) {
            due("behind no sorrow, what " + what, Desk.weep(x, what, 30, 2), OUTSIDE);
            due("behind an evening too many, what " + what, Desk.weep(x, what, 40, 40, 40, 41), OUTSIDE);
            due("ahead of a first wrong, what " + what, Desk.weep(x, what, 9, 30), OUTSIDE);
        }
        int[] long40 = row(40, EVENING);
        long40[39] = 2;
        due("the last of 40", Desk.weep(x, 1, long40), OUTSIDE);
        due("it is no fault", x.fault(), 0);
        Twins.leaves(DOC, "behind index", -13, Twins.INDEX, y -> y.weeping(2, 2, 2, 2, 0));
        Twins.leaves(DOC, "of cells that are taken", OUTSIDE, NO_FAULT, y -> y.weeping(2, 2, 0, 3, 0));
        due("not of one behind them", Twins.made().weeping(2, 2, 0, 2, 1), NONE);
        Desk.lay(x, 2, Desk.INTS, 99, 40);
        due("not of one ahead of them", x.weeping(2, 2, 1, 1, 1), NONE);
    }
}
