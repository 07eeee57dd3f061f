/** Part 3 of the document and promises 12 to 15: to the end. */
public final class EndTest {
    private static final Doc DOC = new Doc("EndTest", 3);
    private static final String ONE = "k2103,213;c06;l14;s05;c38";
    private static final int UNKNOWN = LinenLaw.UNKNOWN, NONE = LinenLaw.NONE, KEPT = Twins.KEPT;

    public static void main(String[] args) {
        tears();
        noTears();
        keep();
        keepTheLeast();
        appoint();
        span();
        spanNone();
        tearsAsPromised();
        keepAsPromised();
        appointAsPromised();
        spanAsPromised();
        DOC.end();
    }

    private static void due(String call, long got, long want) {
        DOC.due(call, got, want);
    }

    private static int tearsOf(String text) {
        return Desk.of(text).tears(0);
    }

    private static int keepOf(String text) {
        return Desk.of(text).keep();
    }

    private static void tears() {
        DOC.terms("TEARS of a LINEN: the fewest ACTS of its WEEPER");
        int[] byDamp = {3, 3, 3, 2, 2, 2, 1, 1, 1, 0};
        for (int v = 0; v < 10; v++) {
            due("of damp " + v + " at heat 8", tearsOf("k0000,8;c0" + v), byDamp[v]);
            due("of damp " + v + " at heat 0", tearsOf("k0000,0;c0" + v), v == 0 ? 1 : 0);
        }
        due("just damp enough", tearsOf("k0000,5;c06"), 0);
        due("just not", tearsOf("k0000,5;c05"), 1);
        due("not more than 9 at once", tearsOf("k0000,55;c00"), 4);
        due("each spent on the day that needs it", tearsOf("k0000,08;c01"), 3);
        due("the last days' all at once", tearsOf("k0000,007;c02"), 2);
        due("lace", tearsOf("k0000,7;l06"), 1);
        due("silk", tearsOf("k0000,3;s08"), 1);
        DOC.terms("(with as much SORROW as one likes)");
        due("without sorrow", tearsOf("k0000,213;l14"), 2);
        due("more than 9", tearsOf("k0000,888888;c09"), 15);
        due("the most", tearsOf("k0000,888888;c00"), 18);
        due("other weepers' are no matter", tearsOf("k9990,213;l34"), 2);
        DOC.terms("by which it is LAW behind each EVENING;");
        due("not only behind the last", tearsOf("k0000,80;c00"), 3);
        due("not only behind the last, where it can't be", tearsOf("k0000,90;c00"), NONE);
        due("not only behind the first", tearsOf("k0000,08;c01"), 3);
        due("not only behind the first, where it can't be", tearsOf("k0000,09;c01"), NONE);
        due("not only behind the ends", tearsOf("k0000,080;c01"), 3);
        due("not only behind the ends, where it can't be", tearsOf("k0000,090;c01"), NONE);
        due("damp of 0 ahead of the first is no matter", tearsOf("k0000,0;c00"), 1);
        due("each of six", tearsOf("k0000,111111;c06"), 1);
        due("each of six, by none", tearsOf("k0000,111111;c07"), 0);
    }

    private static void noTears() {
        DOC.terms("NONE: there are none.");
        for (int day = 0; day < 6; day++) {
            LinenLaw x = Desk.of("k9999,000000;c09;l09;s09");
            x.warm(day, 9);
            due("cambric at heat 9", x.tears(0), NONE);
            x.warm(day, 8);
            due("cambric at heat 8", x.tears(0) != NONE ? 1 : 0, 1);
            due("lace at heat 8", x.tears(1), NONE);
            x.warm(day, 7);
            due("lace at heat 7", x.tears(1) != NONE ? 1 : 0, 1);
            x.warm(day, 4);
            due("silk at heat 4", x.tears(2), NONE);
            x.warm(day, 3);
            due("silk at heat 3", x.tears(2) != NONE ? 1 : 0, 1);
        }
        due("wet enough behind, not on the day", tearsOf("k0000,90;c09"), NONE);
    }

    private static void keep() {
        DOC.terms("KEEP: the most LINENS that can be LAW behind each EVENING at once,");
        due("all five", keepOf("k0000,0;c01;c02;c03;c04;c05"), 31);
        due("none", keepOf("k9999,9;c09;s29"), 0);
        due("most, not first", keepOf("k2000,1;s00;c00;c00"), 6);
        due("two of less, not one of more", keepOf("k3000,8;c00;c06;c03"), 6);
        due("behind each evening, not the last", keepOf("k0000,90;c09;c05;s09"), 0);
        due("each weeper's own", keepOf("k0102,0;c00;c10;c30;c30;c31"), 30);
        due("at once", keepOf("k1100,0;c00;c00;c10;c10"), 5);
        DOC.terms("by the SORROWS that there are,");
        for (int w = 0; w < 4; w++) {
            LinenLaw x = Desk.of("k0000,8;c" + w + "0");
            for (int sorrow = 0; sorrow < 10; sorrow++) {
                x.grieve(w, sorrow);
                due("sorrow " + sorrow + " of " + w, x.keep(), sorrow >= 3 ? 1 : 0);
            }
        }
        due("those without tears by none", keepOf("k0000,0;c00;c01"), 2);
        due("others' are no help", keepOf("k0999,0;c00"), 0);
        due("more than there can be", keepOf("k9999,888888;c09"), 0);
        due("all 9", keepOf("k9000,888;c09;c00"), 1);
        due("just all 9", keepOf("k9000,88;c03;c06"), 3);
        due("one too few", keepOf("k8000,88;c03;c06"), 1);
    }

    private static void keepTheLeast() {
        DOC.terms("as a set: of several the least (as bits).");
        due("one of three", keepOf("k1000,0;c00;c00;c00"), 1);
        due("two of three", keepOf("k2000,0;c00;c00;c00"), 3);
        due("three of four", keepOf("k3000,0;c00;c00;c00;c00"), 7);
        due("1 and 2, not 0 and 3", keepOf("k4000,8;c00;c03;c03;c06"), 6);
        due("4 and the first that goes with it", keepOf("k2000,8;c00;c03;c03;c03;c09"), 18);
        due("the least of each weeper", keepOf("k1100,0;c00;c10;c00;c10"), 3);
    }

    private static void appoint() {
        DOC.terms("APPOINT for a LINEN: the OFFICE by which KEEP has the most LINENS:");
        for (int w = 0; w < 4; w++) {
            LinenLaw x = Desk.of("k0000,8;c00");
            x.grieve(w, 3);
            due("to whom has sorrow", x.appoint(0), w);
        }
        due("who has left enough", Desk.of("k3211,8;c03;c03;c13").appoint(0), 0);
        due("beside one whose he is", Desk.of("k3201,8;c06;c03;c13").appoint(0), 0);
        due("the next, if not", Desk.of("k2301,8;c06;c03;c13").appoint(0), 1);
        due("not who has most sorrow", Desk.of("k0190,8;c06;c20;c20;c20").appoint(0), 1);
        due("not whose it is", Desk.of("k1010,0;c00;c00").appoint(0), 2);
        DOC.terms("of several the least.");
        due("both as many", Desk.of("k0101,0;c20").appoint(0), 1);
        due("all as many", Desk.of("k0000,0;c31").appoint(0), 0);
        due("all as few", Desk.of("k9999,9;c39").appoint(0), 0);
        due("of all four", Desk.of("k9999,0;c30").appoint(0), 0);
        due("none of whom can keep it", Desk.of("k2222,8;c30").appoint(0), 0);
    }

    private static void span() {
        DOC.terms("SPAN of a LINEN and a DAY: the most HEAT 0 .. 9 of that DAY by which it is LAW behind the last EVENING without TEARS;");
        for (int hot = 0; hot < 10; hot++) {
            LinenLaw x = Desk.of("k9999," + hot + ";c09;l09;s09;c01;l02");
            int[] due = {8, 7, 3, 0, 0};
            for (int l = 0; l < 5; l++) {
                due(l + ", whatever heat it has", x.span(l, 0), due[l]);
            }
        }
        LinenLaw days = Desk.of("k0000,213;c09");
        due("day 0", days.span(0, 0), 4);
        due("day 1", days.span(0, 1), 3);
        due("day 2", days.span(0, 2), 5);
        due("silk, less one heat for two", Desk.of("k0000,00;s09").span(0, 0), 2);
        due("the last evening of six", Desk.of("k0000,111110;c09").span(0, 5), 3);
        due("without tears", Desk.of("k9999,5;c03").span(0, 0), 2);
    }

    private static void spanNone() {
        DOC.terms("; NONE.");
        due("of damp 0", Desk.of("k0000,0;c00").span(0, 0), NONE);
        due("of damp 1", Desk.of("k0000,0;c01").span(0, 0), 0);
        due("lace dries by 1 at least", Desk.of("k0000,0;l01").span(0, 0), NONE);
        due("lace of damp 2", Desk.of("k0000,0;l02").span(0, 0), 0);
        due("silk dries by 2 at least", Desk.of("k0000,0;s02").span(0, 0), NONE);
        due("silk of damp 3", Desk.of("k0000,0;s03").span(0, 0), 0);
        LinenLaw x = Desk.of("k0000,09;c09");
        due("another day dries it", x.span(0, 0), NONE);
        due("not the day itself", x.span(0, 1), 8);
        due("law behind an evening, not the last", Desk.of("k0000,05;c05").span(0, 0), NONE);
    }

    private static void tearsAsPromised() {
        DOC.promise(12, "TEARS; NONE.");
        LinenLaw x = Desk.of(ONE);
        int[] cool = {1, 2, 5, 0};
        int[] made = {1, 3, 6, 0};
        for (int l = 0; l < 4; l++) {
            int of = l;
            due("of " + l, x.tears(l), cool[l]);
            Twins.leaves(DOC, "of " + l + ", by the heat that is", made[l], KEPT, y -> y.tears(of));
        }
        due("none", tearsOf("k0000,9;c09"), NONE);
        DOC.promise(12, "UNKNOWN.");
        Twins.range(DOC, "linen", 0, 3, UNKNOWN, KEPT, LinenLaw::tears);
    }

    private static void keepAsPromised() {
        DOC.promise(13, "KEEP, as a set.");
        LinenLaw x = Desk.of(ONE);
        due("keep", x.keep(), 9);
        x.grieve(1, 2);
        due("by the sorrow that is", x.keep(), 11);
        Twins.leaves(DOC, "nothing is changed", 9, KEPT, LinenLaw::keep);
        DOC.promise(13, "STATE: there is no REALM.");
        due("none", new LinenLaw().keep(), LinenLaw.STATE);
        LinenLaw none = new LinenLaw();
        Desk.realm(none, "k2103,213;");
        due("a text that was not taken is none", none.keep(), LinenLaw.STATE);
    }

    private static void appointAsPromised() {
        DOC.promise(14, "APPOINT.");
        LinenLaw x = Desk.of(ONE);
        int[] offices = {0, 3, 0, 0};
        for (int l = 0; l < 4; l++) {
            due("of " + l, x.appoint(l), offices[l]);
        }
        due("the offices are as they were", x.ofLinen(1, 1) * 10 + x.ofLinen(3, 1), 13);
        x.grieve(2, 9);
        due("by the sorrow that is", x.appoint(2), 2);
        Twins.leaves(DOC, "nothing is changed", 2, KEPT, y -> y.appoint(1));
        DOC.promise(14, "UNKNOWN.");
        Twins.range(DOC, "linen", 0, 3, UNKNOWN, KEPT, LinenLaw::appoint);
    }

    private static void spanAsPromised() {
        DOC.promise(15, "SPAN; NONE.");
        LinenLaw x = Desk.of(ONE);
        int[][] spans = {{1, 0, 2}, {NONE, NONE, NONE}, {NONE, NONE, NONE}, {3, 2, 4}};
        for (int l = 0; l < 4; l++) {
            for (int d = 0; d < 3; d++) {
                due("of " + l + " on " + d, x.span(l, d), spans[l][d]);
            }
        }
        Twins.leaves(DOC, "nothing is changed", 3, KEPT, y -> y.span(3, 2));
        Twins.leaves(DOC, "nothing is changed by none", NONE, KEPT, y -> y.span(2, 0));
        DOC.promise(15, "UNKNOWN: LINEN, DAY.");
        Twins.range(DOC, "linen", 0, 3, UNKNOWN, KEPT, (y, l) -> y.span(l, 0));
        Twins.range(DOC, "day", 0, 2, UNKNOWN, KEPT, (y, d) -> y.span(0, d));
    }
}
