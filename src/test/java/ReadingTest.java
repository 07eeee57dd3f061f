/** Part 4 of the document and promises 16 to 21: how damp they were. */
public final class ReadingTest {
    private static final Doc DOC = new Doc("ReadingTest", 4);
    private static final String ONE = "k2103,213;c06;l14;s05;c38";
    private static final int UNKNOWN = LinenLaw.UNKNOWN, OUTSIDE = LinenLaw.OUTSIDE, FULL = LinenLaw.FULL;
    private static final int ALL = 1023, KEPT = Twins.KEPT;
    private static final long LOST = LinenLaw.LOST;

    public static void main(String[] args) {
        eightAtMost();
        readingsMean();
        allReadings();
        damps();
        kinds();
        heats();
        odds();
        readingAsPromised();
        backAsPromised();
        setsAsPromised();
        oddsAsPromised();
        DOC.end();
    }

    private static void due(String call, long got, long want) {
        DOC.due(call, got, want);
    }

    private static void eightAtMost() {
        DOC.terms("READINGS, 8 at most,");
        LinenLaw x = Desk.of(ONE);
        for (int k = 0; k < 8; k++) {
            due("reading " + k, x.reading(k % 4, k % 3, k), k);
            due("so many", x.many(3), k + 1);
        }
        due("a ninth", x.reading(0, 0, 0), FULL);
        due("still so many", x.many(3), 8);
        due("one is taken back", x.back(1), 7);
        due("an eighth", x.reading(0, 0, 0), 7);
        due("a ninth", x.reading(0, 0, 0), FULL);
        LinenLaw eighth = Desk.of(ONE);
        for (int k = 0; k < 7; k++) {
            eighth.reading(0, 0, 6);
        }
        due("seven are so", eighth.damps(0), 64);
        due("the eighth", eighth.reading(0, 0, 5), 7);
        due("the eighth counts", eighth.damps(0), 0);
        DOC.terms("each numbered by how many there are ahead of it (the first one 0):");
        LinenLaw y = Desk.of(ONE);
        due("the first one", y.reading(3, 3, 9), 0);
        due("the same again", y.reading(3, 3, 9), 1);
        due("another", y.reading(0, 0, 0), 2);
        y.back(2);
        due("behind the first one", y.reading(0, 0, 0), 1);
        y.back(2);
        due("the first one again", y.reading(1, 1, 1), 0);
    }

    private static void readingsMean() {
        DOC.terms("behind so many EVENINGS (without TEARS) a LINEN had so much DAMP.");
        LinenLaw x = Desk.of("k9999,213;c06");
        int[] behind = {6, 4, 3, 0};
        for (int t = 0; t <= 3; t++) {
            for (int v = 0; v < 10; v++) {
                x.reading(0, t, v);
                due("damp " + v + " behind " + t + " is so", x.kinds(0) & 1, v == behind[t] ? 1 : 0);
                x.back(1);
            }
        }
    }

    private static void allReadings() {
        DOC.terms("All that follows: in place of what it is alone, by which all READINGS");
        LinenLaw x = Desk.of(ONE);
        due("by none, damps", x.damps(2), ALL);
        due("by none, kinds", x.kinds(2), 7);
        due("by none, heats", x.heats(2), ALL);
        x.reading(0, 0, 6);
        x.reading(0, 3, 0);
        due("both", x.damps(0), 64);
        x.reading(0, 1, 5);
        due("the last one is not so", x.damps(0), 0);
        x.back(2);
        x.reading(0, 1, 5);
        due("nor by another damp", x.damps(0), 0);
        due("but by another heat", x.heats(0), 2);
        due("not by another kind", x.kinds(0), 0);
        x.back(2);
        x.reading(0, 1, 5);
        x.reading(0, 1, 4);
        due("the first one is not so", x.kinds(0), 0);
        due("they are never both", x.damps(0) + x.heats(0), 0);
        DOC.terms("(of other LINENS, too; by HEATS, OFFICES as they are now)");
        LinenLaw y = Desk.of(ONE);
        y.reading(1, 1, 1);
        due("another's that is so, damps", y.damps(0), ALL);
        due("another's that is so, kinds", y.kinds(0), 7);
        y.reading(1, 0, 5);
        due("another's that is not so, damps", y.damps(0), 0);
        due("another's that is not so, kinds", y.kinds(0), 0);
        due("another's that is not so, heats", y.heats(1), 0);
        y.back(1);
        y.warm(0, 1);
        due("by the heat that is, another's", y.damps(0), 0);
        due("by the heat that is", y.damps(1), 1 << 3);
        due("by a heat that was", y.heats(0), 1 << 2);
        y.give(1, 3);
        due("by the office that is", y.damps(1), 1 << 3);
        DOC.terms("are so:");
        due("the heat of another day is no matter", y.heats(1), 0);
        y.warm(0, 2);
        due("all are so", y.heats(1), ALL);
        due("and what is now is one of those", y.damps(1) & 1 << 4, 1 << 4);
        due("more is not so", y.reading(1, 1, 2), 1);
        due("nothing is", y.damps(1) + y.heats(0) + y.kinds(1), 0);
    }

    private static void damps() {
        DOC.terms("DAMPS of a LINEN: 0 .. 9;");
        for (int v = 0; v < 10; v++) {
            LinenLaw x = Desk.of("k0000,5;c05;c05");
            x.reading(0, 0, v);
            due("just " + v, x.damps(0), 1 << v);
            due("of another", x.damps(1), v == 5 ? ALL : 0);
            x.back(1);
            x.reading(0, 1, v);
            due("behind 5 less just " + v, x.damps(0), v == 0 ? 63 : v > 4 ? 0 : 1 << v + 5);
        }
        LinenLaw hot = Desk.of("k0000,9;c00;s00");
        hot.reading(0, 1, 0);
        hot.reading(1, 1, 0);
        due("all, at heat 9", hot.damps(0), ALL);
        due("all of a silk", hot.damps(1), ALL);
        hot.warm(0, 0);
        due("none, at heat 0", hot.damps(0), 1);
        due("0 .. 2, of a silk", hot.damps(1), 7);
    }

    private static void kinds() {
        DOC.terms("KINDS of a LINEN: 0 .. 2;");
        int[][] rows = {{4, 1}, {3, 2}, {1, 4}, {0, 0}, {2, 0}, {5, 0}, {9, 0}};
        for (char now : "cls".toCharArray()) {
            for (int[] row : rows) {
                LinenLaw x = Desk.of("k0000,1;c00;" + now + "05");
                x.reading(1, 1, row[0]);
                due("of damp " + row[0], x.kinds(1), row[1]);
                due("it is the same kind yet", x.ofLinen(1, 0), "cls".indexOf(now));
            }
        }
        LinenLaw x = Desk.of("k0000,29;c02;c03;c06");
        x.reading(0, 1, 0);
        due("all", x.kinds(0), 7);
        x.back(1);
        x.reading(1, 1, 0);
        due("lace and silk", x.kinds(1), 6);
        x.back(1);
        x.reading(2, 1, 0);
        due("silk", x.kinds(2), 4);
        x.reading(2, 2, 0);
        due("silk, behind the last, too", x.kinds(2), 4);
    }

    private static void heats() {
        DOC.terms("HEATS of a DAY: 0 .. 9;");
        for (int v = 0; v < 10; v++) {
            LinenLaw x = Desk.of("k0000,5;c09");
            x.reading(0, 1, v);
            due("just one for " + v, x.heats(0), 1 << 9 - v);
            due("as it was", x.heat(0), 5);
        }
        LinenLaw x = Desk.of("k0000,05;c09;l08;s07;c00");
        x.reading(3, 2, 0);
        due("all, by a dry one", x.heats(0), ALL);
        x.reading(1, 1, 0);
        due("7 and more, by a lace", x.heats(0), ALL - 127);
        x.reading(2, 1, 0);
        due("no fewer, by a silk too", x.heats(0), ALL - 127);
        due("none of another day", x.heats(1), 0);
        x.back(2);
        x.reading(2, 2, 0);
        due("the last day's, by a silk", x.heats(1), ALL - 3);
        x.back(1);
        x.reading(0, 0, 9);
        due("ahead of any evening", x.heats(0), ALL);
        x.reading(0, 0, 8);
        due("ahead of any evening, not so", x.heats(0), 0);
        DOC.terms("as sets.");
        LinenLaw y = Desk.of("k0000,4;c04;s00");
        y.reading(0, 1, 0);
        due("damps 0 .. 4", y.damps(0), 31);
        due("kinds 0 .. 2", y.kinds(0), 7);
        due("heats 4 .. 9", y.heats(0), 16 + 32 + 64 + 128 + 256 + 512);
    }

    private static void dueOdds(String text, long upper, long lower) {
        LinenLaw x = Desk.of(text);
        due(text + ", upper", x.odds(0, 0), upper);
        due(text + ", lower", x.odds(0, 1), lower);
    }

    private static void odds() {
        DOC.terms("ODDS of a LINEN (READINGS do not matter):");
        LinenLaw x = Desk.of(ONE);
        due("by none", x.odds(0, 0) * 10 + x.odds(0, 1), 78);
        x.reading(0, 0, 0);
        x.reading(1, 1, 9);
        due("by some that are not so", x.odds(0, 0) * 10 + x.odds(0, 1), 78);
        DOC.terms("if each DAY has its HEAT, or is cool (HEAT 0), all such sets of DAYS alike:");
        dueOdds("k0000,999999;c09", 1, 64);
        dueOdds("k0000,99999;c09", 1, 32);
        dueOdds("k0000,9;c09", 1, 2);
        dueOdds("k0000,111111;c06", 63, 64);
        dueOdds("k0000,111111;c05", 57, 64);
        dueOdds("k0000,11;c01", 1, 4);
        dueOdds("k0000,12;c02", 1, 2);
        dueOdds("k0000,21;c02", 1, 2);
        dueOdds("k0000,11;c02", 3, 4);
        dueOdds("k0000,00;c01", 1, 1);
        dueOdds("k0000,90;c09", 1, 2);
        dueOdds("k0000,5;l02", 1, 2);
        dueOdds("k0000,5;l01", 0, 1);
        dueOdds("k0000,5;s03", 1, 2);
        dueOdds("k0000,5;s02", 0, 1);
        dueOdds("k0000,22;s09", 3, 4);
        dueOdds("k0000,22;s08", 1, 4);
        DOC.terms("the share by which it is LAW behind the last EVENING without TEARS.");
        dueOdds("k9999,9;c00", 0, 1);
        dueOdds("k9999,8;c09", 1, 1);
        dueOdds("k9999,2222;c05", 11, 16);
        for (int days = 1; days <= 6; days++) {
            dueOdds("k9999," + "9".repeat(days) + ";c00", 0, 1);
            dueOdds("k9999," + "0".repeat(days) + ";c01", 1, 1);
            dueOdds("k9999," + "9".repeat(days) + ";c01", 1, 1 << days);
        }
        LinenLaw all = Desk.of("k9999,888888;c09;c08");
        due("the last of six, upper", all.odds(0, 0), 7);
        due("the last of six, lower", all.odds(0, 1), 64);
        due("another linen's, upper", all.odds(1, 0), 1);
        due("another linen's, lower", all.odds(1, 1), 64);
    }

    private static void readingAsPromised() {
        DOC.promise(16, "A READING: its number.");
        due("behind two", Twins.made().reading(3, 3, 9), 2);
        due("at the other ends", Twins.made().reading(0, 0, 0), 2);
        DOC.promise(16, "UNKNOWN;");
        Twins.range(DOC, "linen", 0, 3, UNKNOWN, KEPT, (x, l) -> x.reading(l, 0, 0));
        due("ahead of outside", Twins.made().reading(4, 4, 10), UNKNOWN);
        DOC.promise(16, "OUTSIDE: t (0 .. as many as there are DAYS), v (0 .. 9);");
        Twins.range(DOC, "t", 0, 3, (x, t) -> x.reading(0, t, 0));
        Twins.range(DOC, "v", 0, 9, (x, v) -> x.reading(0, 0, v));
        for (int days = 1; days <= 6; days++) {
            LinenLaw of = Desk.of("k0000," + "0".repeat(days) + ";c09");
            due("as many as " + days, of.reading(0, days, 9), 0);
            due("one more than " + days, of.reading(0, days + 1, 9), OUTSIDE);
        }
        DOC.promise(16, "FULL.");
        LinenLaw x = Desk.of(ONE);
        for (int k = 0; k < 8; k++) {
            due("reading", x.reading(3, 3, k), k);
        }
        due("full", x.reading(0, 0, 0), FULL);
        due("unknown ahead of full", x.reading(4, 0, 0), UNKNOWN);
        due("outside ahead of full, t", x.reading(0, 4, 0), OUTSIDE);
        due("outside ahead of full, v", x.reading(0, 0, 10), OUTSIDE);
        due("eight", x.many(3), 8);
    }

    private static void backAsPromised() {
        DOC.promise(17, "The last k READINGS (0 .. as many as there are) are taken back: how many are left.");
        LinenLaw x = Desk.of(ONE);
        for (int v = 1; v < 9; v++) {
            x.reading(0, 0, v);
        }
        due("none", x.back(0), 8);
        due("as many", x.many(3), 8);
        due("six", x.back(6), 2);
        due("one", x.back(1), 1);
        due("the first one stays", x.damps(0), 2);
        due("the last one", x.back(1), 0);
        due("none of none", x.back(0), 0);
        due("it is no matter any more", x.damps(0), ALL);
        for (int v = 1; v < 9; v++) {
            x.reading(0, 0, v);
        }
        due("all eight", x.back(8), 0);
        DOC.promise(17, "OUTSIDE.");
        Twins.range(DOC, "k, of two", 0, 2, LinenLaw::back);
        due("one of none", x.back(1), OUTSIDE);
        due("without a realm", new LinenLaw().back(1), OUTSIDE);
        due("none without a realm", new LinenLaw().back(0), 0);
    }

    private static void setsAsPromised() {
        DOC.promise(18, "DAMPS, as a set.");
        Twins.leaves(DOC, "of one whose reading is not so", 32, KEPT, x -> x.damps(1));
        Twins.leaves(DOC, "of another", 0, KEPT, x -> x.damps(0));
        DOC.promise(18, "UNKNOWN.");
        Twins.range(DOC, "linen", 0, 3, UNKNOWN, KEPT, LinenLaw::damps);
        DOC.promise(19, "KINDS, as a set.");
        LinenLaw x = Desk.of(ONE);
        x.reading(0, 1, 3);
        due("it was a lace", x.kinds(0), 2);
        due("it is a cambric", x.ofLinen(0, 0), 0);
        Twins.leaves(DOC, "none", 0, KEPT, y -> y.kinds(1));
        DOC.promise(19, "UNKNOWN.");
        Twins.range(DOC, "linen", 0, 3, UNKNOWN, KEPT, LinenLaw::kinds);
        DOC.promise(20, "HEATS, as a set.");
        due("so hot it was", x.heats(0), 8);
        due("so hot it is", x.heat(0), 2);
        Twins.leaves(DOC, "none", 0, KEPT, y -> y.heats(0));
        DOC.promise(20, "UNKNOWN.");
        Twins.range(DOC, "day", 0, 2, UNKNOWN, KEPT, LinenLaw::heats);
    }

    private static void oddsAsPromised() {
        DOC.promise(21, "ODDS (which 0 the upper, 1 the lower number).");
        LinenLaw x = Desk.of(ONE);
        long[][] rows = {{7, 8}, {1, 8}, {0, 1}, {1, 1}};
        for (int l = 0; l < 4; l++) {
            for (int which = 0; which < 2; which++) {
                due("of " + l + " " + which, x.odds(l, which), rows[l][which]);
            }
        }
        Twins.leaves(DOC, "nothing is changed", 7, KEPT, y -> y.odds(0, 0));
        DOC.promise(21, "LOST: UNKNOWN;");
        Twins.range(DOC, "linen", 0, 3, LOST, KEPT, (y, l) -> y.odds(l, 1));
        due("without a realm", new LinenLaw().odds(0, 0), LOST);
        DOC.promise(21, "OUTSIDE.");
        Twins.range(DOC, "which", 0, 1, LOST, KEPT, (y, which) -> y.odds(0, which));
    }
}
