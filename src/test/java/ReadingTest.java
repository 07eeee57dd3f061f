/** Promises 16 to 21: how damp they were. */
public final class ReadingTest {
    private static final Check CHECK = new Check("ReadingTest");
    private static final String ONE = "k2103,213;c06;l14;s05;c38";

    private static void due(String call, long got, long want) {
        CHECK.due(call, got, want);
    }

    public static void main(String[] args) {
        readingAndBack();
        damps();
        kinds();
        heats();
        odds();
        CHECK.end();
    }

    private static void readingAndBack() {
        LinenLaw x = Desk.of(ONE);
        due("16: linen 4", x.reading(4, 4, 10), -1);
        due("16: linen -1", x.reading(-1, 0, 0), -1);
        due("16: t 4", x.reading(0, 4, 0), -2);
        due("16: t -1", x.reading(0, -1, 0), -2);
        due("16: v 10", x.reading(0, 0, 10), -2);
        due("16: v -1", x.reading(0, 0, -1), -2);
        due("16: none yet", x.many(3), 0);
        for (int k = 0; k < 8; k++) {
            due("16: its number", x.reading(3, 3, k), k);
        }
        due("16: outside ahead of full", x.reading(0, 4, 0), -2);
        due("16: unknown ahead of full", x.reading(4, 0, 0), -1);
        due("16: full", x.reading(0, 0, 0), -4);
        due("16: eight", x.many(3), 8);
        due("17: 9", x.back(9), -2);
        due("17: -1", x.back(-1), -2);
        due("17: far off", x.back(Integer.MAX_VALUE), -2);
        due("17: none", x.back(0), 8);
        due("17: three", x.back(3), 5);
        due("17: as many", x.many(3), 5);
        due("17: 6", x.back(6), -2);
        due("16: again", x.reading(0, 0, 6), 5);
        due("17: all", x.back(6), 0);
        due("17: the last ones", lastAreTakenBack(), 1 << 4);
    }

    private static int lastAreTakenBack() {
        LinenLaw x = Desk.of(ONE);
        x.reading(0, 0, 4);
        x.reading(0, 0, 5);
        x.reading(0, 0, 6);
        x.back(2);
        return x.damps(0);
    }

    private static void damps() {
        LinenLaw x = Desk.of(ONE);
        due("18: without readings", x.damps(2), 1023);
        x.reading(0, 3, 0);
        due("18: behind the last evening", x.damps(0), 127);
        due("18: of another that is so", x.damps(1), 1023);
        x.reading(0, 1, 4);
        due("18: both", x.damps(0), 1 << 6);
        x.reading(1, 0, 5);
        due("18: one that is not so", x.damps(1), 1 << 5);
        due("18: of another that is not so", x.damps(0), 0);
        due("18: nothing is changed", x.ofLinen(1, 2), 4);
        due("18: linen 4", x.damps(4), -1);
        due("18: linen -1", x.damps(-1), -1);
        x.back(2);
        x.warm(0, 9);
        due("18: by the heat that is", x.damps(0), 1023);
        x.reading(2, 0, 9);
        due("18: up to 9", x.damps(2), 512);
    }

    private static void kinds() {
        LinenLaw x = Desk.of(ONE);
        due("19: without readings", x.kinds(0), 7);
        x.reading(0, 1, 3);
        due("19: lace it was", x.kinds(0), 2);
        due("19: of another that is not so", x.kinds(1), 0);
        x.back(1);
        x.reading(0, 1, 0);
        due("19: silk it was", x.kinds(0), 4);
        x.back(1);
        x.reading(1, 2, 0);
        due("19: lace or silk", x.kinds(1), 6);
        due("19: of another that is so", x.kinds(0), 7);
        due("19: nothing is changed", x.ofLinen(1, 0), 1);
        due("19: linen 4", x.kinds(4), -1);
        due("19: linen -1", x.kinds(-1), -1);
    }

    private static void heats() {
        LinenLaw x = Desk.of(ONE);
        due("20: without readings", x.heats(2), 1023);
        x.reading(0, 1, 1);
        due("20: so hot it was", x.heats(0), 1 << 5);
        due("20: of another day", x.heats(1), 0);
        x.back(1);
        x.reading(3, 3, 0);
        due("20: so hot at least", x.heats(2), 1023 - 31);
        x.reading(0, 1, 4);
        due("20: both", x.heats(2), 1023 - 31);
        due("20: both", x.heats(0), 0);
        due("20: nothing is changed", x.heat(0) * 100 + x.heat(1) * 10 + x.heat(2), 213);
        due("20: day 3", x.heats(3), -1);
        due("20: day -1", x.heats(-1), -1);
        x.back(2);
        x.reading(3, 0, 8);
        due("20: ahead of any evening", x.heats(0), 1023);
    }

    private static void odds() {
        LinenLaw x = Desk.of(ONE);
        long[][] rows = {{7, 8}, {1, 8}, {0, 1}, {1, 1}};
        for (int l = 0; l < 4; l++) {
            for (int which = 0; which < 2; which++) {
                due("21: of " + l + " " + which, x.odds(l, which), rows[l][which]);
            }
        }
        x.reading(0, 0, 0);
        due("21: readings do not matter", x.odds(0, 0), 7);
        due("21: heats are as they were", x.heat(0), 2);
        due("21: linen 4", x.odds(4, 0), LinenLaw.LOST);
        due("21: linen -1", x.odds(-1, 0), LinenLaw.LOST);
        due("21: which 2", x.odds(0, 2), LinenLaw.LOST);
        due("21: which -1", x.odds(0, -1), LinenLaw.LOST);
        LinenLaw hot = Desk.of("k0000,999999;c09;s09;c01");
        due("21: one of 64", hot.odds(0, 0), 1);
        due("21: one of 64", hot.odds(0, 1), 64);
        due("21: never", hot.odds(1, 0), 0);
        due("21: never", hot.odds(1, 1), 1);
        LinenLaw half = Desk.of("k0000,900;c01");
        due("21: least terms", half.odds(0, 0), 1);
        due("21: least terms", half.odds(0, 1), 2);
    }
}
