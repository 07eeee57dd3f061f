/** Promises 1 to 8: the new object and the realm. */
public final class RealmTest {
    private static final Check CHECK = new Check("RealmTest");
    private static final String ONE = "k2103,213;c06;l14;s05;c38";

    private static void due(String call, long got, long want) {
        CHECK.due(call, got, want);
    }

    public static void main(String[] args) {
        newObject();
        realmIsTaken();
        realmsFirstFault();
        realmRefuses();
        realmMakesAllAnew();
        ofLinen();
        heatAndWarm();
        grieve();
        give();
        dries();
        CHECK.end();
    }

    private static void newObject() {
        LinenLaw x = new LinenLaw();
        for (int what = 0; what < 4; what++) {
            due("1: many " + what, x.many(what), 0);
        }
        for (int k = 0; k < 4; k++) {
            due("1: lose " + k, x.lose(k), 0);
            due("1: put " + k, x.put(k, 0, 0), -11);
        }
        due("1: fault", new LinenLaw().fault(), 0);
        due("1: trace", x.trace(), 0);
        due("1: laws", x.laws(0), -3);
        due("1: keep", x.keep(), -3);
        due("1: ofLinen", x.ofLinen(0, 0), -1);
        due("1: heat", x.heat(0), -1);
        due("1: warm", x.warm(0, 10), -1);
        due("1: give", x.give(0, 0), -1);
        due("1: dries", x.dries(0, 0), -1);
        due("1: damp", x.damp(0, 0), -1);
        due("1: tears", x.tears(0), -1);
        due("1: appoint", x.appoint(0), -1);
        due("1: span", x.span(0, 0), -1);
        due("1: reading", x.reading(0, 0, 0), -1);
        due("1: back", x.back(0), 0);
        due("1: back 1", x.back(1), -2);
        due("1: damps", x.damps(0), -1);
        due("1: kinds", x.kinds(0), -1);
        due("1: heats", x.heats(0), -1);
        due("1: odds", x.odds(0, 0), LinenLaw.LOST);
        due("1: tell", x.tell(0), -1);
        due("1: knot", x.knot(0), -1);
        due("1: as", x.as(0, 0), -1);
    }

    private static void realmIsTaken() {
        for (int lane = 0; lane < 3; lane++) {
            LinenLaw x = new LinenLaw();
            int[] cells = Desk.codes("zz" + ONE + "z");
            Desk.lay(x, 3, lane, cells);
            due("2: from inside a row", x.realm(3, lane, 2, ONE.length()), 4);
            due("2: its days", x.many(1), 3);
            due("2: its sorrows", x.many(2), 6);
        }
        LinenLaw x = new LinenLaw();
        due("2: the shortest", Desk.realm(x, "k0000,0;c00"), 1);
        due("2: the longest", Desk.realm(x, "k9999,999999;s39;s39;s39;s39;s39"), 5);
        due("2: its days", x.many(1), 6);
        due("2: its sorrows", x.many(2), 36);
    }

    private static void realmsFirstFault() {
        String[][] rows = {
            {"", "0"}, {"k", "1"}, {"k21", "3"}, {"k2103", "5"}, {"k2103,", "6"}, {"k2103,2", "7"},
            {"k2103,213;", "10"}, {"k2103,213;c", "11"}, {"k2103,213;c0", "12"}, {"k2103,213;c06;", "14"},
            {"K2103,2;c06", "0"}, {"c2103,2;c06", "0"}, {"k210,3,2;c06", "4"}, {"ka103,2;c06", "1"},
            {"k21033,2;c06", "5"}, {"k2103;2;c06", "5"}, {"k2103,;c06", "6"}, {"k2103,a;c06", "6"},
            {"k2103,2,c06", "7"}, {"k2103,2a;c06", "7"}, {"k2103,1234567;c06", "12"}, {"k2103,123456c;c06", "12"},
            {"k2103,2;d06", "8"}, {"k2103,2;;06", "8"}, {"k2103,2;c46", "9"}, {"k2103,2;c/6", "9"},
            {"k2103,2;c0:", "10"}, {"k2103,2;c0/", "10"}, {"k2103,2;c066", "11"}, {"k2103,2;c06c06", "11"},
            {"k2103,2;c06;x06", "12"}, {"k2103,2;c06;l06;s06;c06;c06;", "27"},
            {"k2103,2;c06;l06;s06;c06;c06;c06", "27"}, {"k2103,2;c06;l06;s06;c06;c06x", "27"},
            {"k2103,2;c06;l06;s06;c06;c", "25"}, {"k/103,2;c06", "1"}, {"k2:03,2;c06", "2"},
        };
        for (String[] row : rows) {
            LinenLaw x = Desk.of(ONE);
            due("2: first fault of " + row[0], Desk.realm(x, row[0]), -100 - Integer.parseInt(row[1]));
            due("2: no fault by " + row[0], x.fault(), 0);
            due("2: linens behind " + row[0], x.many(0), 4);
            due("2: days behind " + row[0], x.many(1), 3);
            due("2: sorrows behind " + row[0], x.many(2), 6);
        }
        LinenLaw x = new LinenLaw();
        int[] cells = Desk.codes(ONE);
        cells[0] += 256;
        Desk.lay(x, 2, Desk.INTS, cells);
        due("2: a code is a whole number", x.realm(2, Desk.INTS, 0, cells.length), -100);
        cells[0] = -1;
        Desk.lay(x, 2, Desk.INTS, cells);
        due("2: a code below 0", x.realm(2, Desk.INTS, 0, cells.length), -100);
        due("2: cells behind n are no matter", Desk.realm(x, ONE), 4);
        due("2: n ends a text", x.realm(0, Desk.BYTES, 0, 13), 1);
        due("2: n ends it too soon", x.realm(0, Desk.BYTES, 0, 12), -112);
    }

    private static void realmRefuses() {
        LinenLaw x = new LinenLaw();
        int[] cells = Desk.codes(ONE);
        int n = cells.length;
        Desk.lay(x, 0, Desk.BYTES, cells);
        due("2: sheet 4", x.realm(4, 3, -1, -1), -1);
        due("2: sheet -1", x.realm(-1, -1, 0, 0), -1);
        due("2: sheet far off", x.realm(Integer.MIN_VALUE, 0, 0, 0), -1);
        due("2: lane 3, of nothing", x.realm(1, 3, -1, -1), -2);
        due("2: lane -1", x.realm(0, -1, -1, -1), -2);
        due("2: cast ahead of size", x.realm(0, 1, 99, -1), -12);
        due("2: fault", x.fault(), 2);
        due("2: refused", x.realm(4, 0, 0, 0), -1);
        due("2: fault of a refused one", x.fault(), 0);
        due("2: null, of any lane", x.realm(1, 2, -1, -1), -11);
        due("2: fault", x.fault(), 1);
        due("2: size ahead of index", x.realm(0, 0, -1, -1), -14);
        due("2: fault", x.fault(), 4);
        due("2: size", x.realm(0, 0, 0, Integer.MIN_VALUE), -14);
        due("2: i below 0", x.realm(0, 0, -1, 1), -13);
        due("2: fault", x.fault(), 3);
        due("2: i below 0, no cells", x.realm(0, 0, -1, 0), -13);
        due("2: i beyond, no cells", x.realm(0, 0, n + 1, 0), -13);
        due("2: i at the end, no cells", x.realm(0, 0, n, 0), -100);
        due("2: fault of a text that is not taken", x.fault(), 0);
        due("2: one too many", x.realm(0, 0, 0, n + 1), -13);
        due("2: one too many, from 1 on", x.realm(0, 0, 1, n), -13);
        due("2: no wrap-around", x.realm(0, 0, 1, Integer.MAX_VALUE), -13);
        due("2: no wrap-around", x.realm(0, 0, Integer.MAX_VALUE, Integer.MAX_VALUE), -13);
        due("2: no realm yet", x.many(0), 0);
    }

    private static void realmMakesAllAnew() {
        LinenLaw x = Desk.of(ONE);
        x.tell(0);
        x.reading(0, 0, 6);
        x.warm(0, 9);
        x.grieve(0, 9);
        x.give(0, 3);
        Desk.lay(x, 2, Desk.INTS, 70000);
        Desk.realm(x, "k0,");
        due("2: a reading stays by a text that is not taken", x.many(3), 1);
        due("2: a heat stays by it", x.heat(0), 9);
        due("2: anew", Desk.realm(x, "k1000,21;s39"), 1);
        due("2: no readings", x.many(3), 0);
        due("2: linens", x.many(0), 1);
        due("2: days", x.many(1), 2);
        due("2: sorrows", x.many(2), 1);
        due("2: kind", x.ofLinen(0, 0), 2);
        due("2: office", x.ofLinen(0, 1), 3);
        due("2: damp", x.ofLinen(0, 2), 9);
        due("2: no linen 1", x.ofLinen(1, 0), -1);
        due("2: no day 2", x.heat(2), -1);
        due("2: heat", x.heat(0), 2);
        due("2: sheets stay", x.cell(2, 0, Desk.INTS), 70000);
        due("2: trace stays", x.trace(), 1);
        LinenLaw fewer = Desk.of("k9999,000000;c09;c09;c09;c09;c09");
        Desk.realm(fewer, "k9999,0;c09;c09");
        due("2: no more linens than there are, laws", fewer.laws(1), 3);
        due("2: no more linens than there are, weeping", Desk.weep(fewer, 0, 40), 3);
        due("2: no more linens than there are, lasting", Desk.weep(fewer, 2, 40), 3);
        due("2: no more linens than there are, keep", fewer.keep(), 3);
        due("2: no more days than there are", fewer.damp(0, 2), -2);
    }

    private static void ofLinen() {
        LinenLaw x = Desk.of(ONE);
        int[][] rows = {{0, 0, 6}, {1, 1, 4}, {2, 0, 5}, {0, 3, 8}};
        for (int l = 0; l < rows.length; l++) {
            for (int what = 0; what < 3; what++) {
                due("3: of " + l + " " + what, x.ofLinen(l, what), rows[l][what]);
            }
        }
        due("3: linen 4", x.ofLinen(4, 3), -1);
        due("3: linen -1", x.ofLinen(-1, 0), -1);
        due("3: what 3", x.ofLinen(0, 3), -2);
        due("3: what -1", x.ofLinen(0, -1), -2);
    }

    private static void heatAndWarm() {
        LinenLaw x = Desk.of(ONE);
        due("4: day 0", x.heat(0), 2);
        due("4: day 1", x.heat(1), 1);
        due("4: day 2", x.heat(2), 3);
        due("4: day 3", x.heat(3), -1);
        due("4: day -1", x.heat(-1), -1);
        due("5: what it was", x.warm(1, 9), 1);
        due("5: becomes", x.heat(1), 9);
        due("5: to 0", x.warm(1, 0), 9);
        due("5: becomes", x.heat(1), 0);
        due("5: no other", x.heat(0) * 10 + x.heat(2), 23);
        due("5: day 3", x.warm(3, 10), -1);
        due("5: day -1", x.warm(-1, 0), -1);
        due("5: heat 10", x.warm(0, 10), -2);
        due("5: heat -1", x.warm(0, -1), -2);
        due("5: as it was", x.heat(0), 2);
    }

    private static void grieve() {
        LinenLaw x = Desk.of(ONE);
        due("6: what it was", x.grieve(3, 9), 3);
        due("6: becomes", x.grieve(3, 0), 9);
        due("6: together", x.many(2), 3);
        due("6: weeper 0", x.grieve(0, 2), 2);
        due("6: weeper 4", x.grieve(4, 10), -1);
        due("6: weeper -1", x.grieve(-1, 0), -1);
        due("6: sorrow 10", x.grieve(0, 10), -2);
        due("6: sorrow -1", x.grieve(0, -1), -2);
        due("6: together", x.many(2), 3);
        LinenLaw none = new LinenLaw();
        due("6: unknown ahead of state", none.grieve(4, 10), -1);
        due("6: outside ahead of state", none.grieve(0, 10), -2);
        due("6: state", none.grieve(0, 1), -3);
        due("6: nothing", none.many(2), 0);
    }

    private static void give() {
        LinenLaw x = Desk.of(ONE);
        due("7: whose it was", x.give(3, 0), 3);
        due("7: becomes", x.ofLinen(3, 1), 0);
        due("7: no other", x.ofLinen(1, 1), 1);
        due("7: linen 4", x.give(4, 0), -1);
        due("7: linen -1", x.give(-1, 0), -1);
        due("7: weeper 4", x.give(0, 4), -1);
        due("7: weeper -1", x.give(0, -1), -1);
        due("7: as it was", x.ofLinen(0, 1), 0);
        due("7: to 3", x.give(0, 3), 0);
        due("7: becomes", x.ofLinen(0, 1), 3);
    }

    private static void dries() {
        LinenLaw x = Desk.of("k0000,90;c01;l00;s09");
        int[][] rows = {{9, 0}, {10, 1}, {20, 2}};
        for (int l = 0; l < 3; l++) {
            for (int d = 0; d < 2; d++) {
                due("8: " + l + " on " + d, x.dries(l, d), rows[l][d]);
            }
        }
        x.warm(1, 4);
        due("8: by the heat that is", x.dries(2, 1), 10);
        due("8: linen 3", x.dries(3, 0), -1);
        due("8: linen -1", x.dries(-1, 0), -1);
        due("8: day 2", x.dries(0, 2), -1);
        due("8: day -1", x.dries(0, -1), -1);
    }
}
