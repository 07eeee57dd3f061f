/** Promises 12 to 15: to the end. */
public final class EndTest {
    private static final Check CHECK = new Check("EndTest");
    private static final String ONE = "k2103,213;c06;l14;s05;c38";

    private static void due(String call, long got, long want) {
        CHECK.due(call, got, want);
    }

    public static void main(String[] args) {
        tears();
        keep();
        appoint();
        span();
        CHECK.end();
    }

    private static void tears() {
        LinenLaw x = Desk.of(ONE);
        int[] due = {1, 2, 5, 0};
        for (int l = 0; l < 4; l++) {
            due("12: of " + l, x.tears(l), due[l]);
        }
        due("12: linen 4", x.tears(4), -1);
        due("12: linen -1", x.tears(-1), -1);
        due("12: sorrow is no matter", Desk.of("k0000,213;l14").tears(0), 2);
        due("12: a dry one needs one", Desk.of("k0000,0;c00").tears(0), 1);
        due("12: as wet as can be", Desk.of("k0000,0;c09").tears(0), 0);
        due("12: 9 is too hot", Desk.of("k0000,9;c09").tears(0), -9);
        due("12: 8 is not", Desk.of("k0000,8;c09").tears(0), 0);
        due("12: 8 from 0 on", Desk.of("k0000,8;c00").tears(0), 3);
        due("12: silk at 3", Desk.of("k0000,3;s00").tears(0), 3);
        due("12: silk at 4", Desk.of("k0000,4;s09").tears(0), -9);
        due("12: lace at 8", Desk.of("k0000,8;l09").tears(0), -9);
        due("12: behind each evening", Desk.of("k0000,90;c05").tears(0), -9);
        due("12: day by day", Desk.of("k0000,888888;c09").tears(0), 15);
        due("12: not all at once", Desk.of("k0000,55;c00").tears(0), 4);
    }

    private static void keep() {
        LinenLaw x = Desk.of(ONE);
        due("13: keep", x.keep(), 9);
        x.grieve(1, 2);
        due("13: by the sorrow that is", x.keep(), 11);
        due("13: of several the least", Desk.of("k1000,0;c00;c00;c00").keep(), 1);
        due("13: most, not first", Desk.of("k2000,1;s00;c00;c00").keep(), 6);
        due("13: least as bits", Desk.of("k3000,0;c00;c00;c00;c00").keep(), 7);
        due("13: each his own", Desk.of("k0102,0;c00;c10;c30;c30;c31").keep(), 30);
        due("13: without tears", Desk.of("k0000,0;c00;c01").keep(), 2);
        due("13: never", Desk.of("k9999,9;c09;s29").keep(), 0);
        due("13: state", new LinenLaw().keep(), -3);
    }

    private static void appoint() {
        LinenLaw x = Desk.of(ONE);
        int[] due = {0, 3, 0, 0};
        for (int l = 0; l < 4; l++) {
            due("14: of " + l, x.appoint(l), due[l]);
        }
        due("14: linen 4", x.appoint(4), -1);
        due("14: linen -1", x.appoint(-1), -1);
        due("14: nothing is changed", x.ofLinen(1, 1), 1);
        due("14: keep as it was", x.keep(), 9);
        x.grieve(2, 9);
        due("14: by the sorrow that is", x.appoint(2), 2);
        due("14: of several the least", Desk.of("k0101,0;c20").appoint(0), 1);
        due("14: all as many", Desk.of("k0000,0;c31").appoint(0), 0);
    }

    private static void span() {
        LinenLaw x = Desk.of(ONE);
        int[][] rows = {{1, 0, 2}, {-9, -9, -9}, {-9, -9, -9}, {3, 2, 4}};
        for (int l = 0; l < 4; l++) {
            for (int d = 0; d < 3; d++) {
                due("15: of " + l + " on " + d, x.span(l, d), rows[l][d]);
            }
        }
        due("15: nothing is changed", x.heat(0) * 100 + x.heat(1) * 10 + x.heat(2), 213);
        due("15: linen 4", x.span(4, 0), -1);
        due("15: linen -1", x.span(-1, 0), -1);
        due("15: day 3", x.span(0, 3), -1);
        due("15: day -1", x.span(0, -1), -1);
        due("15: lace", Desk.of("k0000,9;l09").span(0, 0), 7);
        due("15: silk", Desk.of("k0000,9;s09").span(0, 0), 3);
        due("15: the heat it has is no matter", Desk.of("k0000,9;c09").span(0, 0), 8);
        due("15: only 0", Desk.of("k0000,0;c01").span(0, 0), 0);
        due("15: none", Desk.of("k0000,0;c00").span(0, 0), -9);
        due("15: silk dries by 2 at least", Desk.of("k0000,0;s02").span(0, 0), -9);
    }
}
