import java.util.Arrays;
import java.util.function.ToLongFunction;

/**
 * Two objects that were made alike: what a call has changed in the one shows against the other.
 * Their REALM is that of MADE, with 4 LINENS and 3 DAYS, of which some was changed since; SHEET 0 has its TEXT as bytes,
 * 1 has three shorts, 2 has three ints, of which the first two are ACTS, 3 has nothing.
 */
final class Twins {
    static final int NO_FAULT = 0, NULL = 1, CAST = 2, INDEX = 3, SIZE = 4;
    /** fault() of an object as it is made here: a call that names no FAULTS leaves it so. */
    static final int KEPT = INDEX;
    static final int LAST_LINEN = 3, LAST_DAY = 2, EVENINGS = 3, CELLS = 25, BEYOND = 9;
    private static final String MADE = "k2103,213;c06;l14;s05;c38";
    private static final int[] SHEET_LENGTHS = {CELLS, 3, 3, 0};

    /** A call with a number that the test chooses. */
    interface AskBy {
        long of(LinenLaw x, int v);
    }

    private Twins() {
    }

    static LinenLaw made() {
        LinenLaw x = new LinenLaw();
        Desk.realm(x, MADE);
        Desk.lay(x, 1, Desk.SHORTS, 300, -2, 7);
        Desk.lay(x, 2, Desk.INTS, 40, 0, 70000);
        x.warm(1, 2);
        x.grieve(2, 4);
        x.give(3, 1);
        x.reading(0, 1, 4);
        x.reading(1, 0, 5);
        x.tell(2);
        x.knot(1);
        x.put(1, 3, 0);
        return x;
    }

    /** The answer is due, and the call has changed nothing but what fault() tells. */
    static void leaves(Doc doc, String call, long answer, int faultThen, ToLongFunction<LinenLaw> ask) {
        LinenLaw x = made();
        doc.due(call, ask.applyAsLong(x), answer);
        doc.due("fault() behind " + call, x.fault(), faultThen);
        doc.due("all that there is behind " + call, all(x), all(made()));
    }

    /** A range of numbers: both of its ends are taken; the first beyond each and the farthest are refused. */
    static void range(Doc doc, String call, int first, int last, AskBy ask) {
        range(doc, call, first, last, LinenLaw.OUTSIDE, KEPT, ask);
    }

    static void range(Doc doc, String call, int first, int last, long refusal, int faultThen, AskBy ask) {
        for (int v : new int[] {first - 1, last + 1, Integer.MIN_VALUE, Integer.MAX_VALUE}) {
            leaves(doc, call + " by " + v, refusal, faultThen, x -> ask.of(x, v));
        }
        for (int v : new int[] {first, last}) {
            long answer = ask.of(made(), v);
            doc.isSo(call + " by " + v + " is taken, but answered " + answer, answer != refusal && !isRefusal(answer));
        }
    }

    private static boolean isRefusal(long answer) {
        return answer == LinenLaw.LOST || answer >= LinenLaw.FULL && answer <= LinenLaw.UNKNOWN;
    }

    /** All that can be asked, but fault(), in a row. */
    static String all(LinenLaw x) {
        StringBuilder all = new StringBuilder("trace " + x.trace() + " many");
        for (int what = 0; what < 4; what++) {
            all.append(' ').append(x.many(what));
        }
        for (int l = 0; l < x.many(0); l++) {
            int[] of = {x.ofLinen(l, 0), x.ofLinen(l, 1), x.ofLinen(l, 2), x.damps(l), x.kinds(l)};
            all.append(", linen ").append(Arrays.toString(of));
        }
        for (int d = 0; d < x.many(1); d++) {
            all.append(", day ").append(x.heat(d)).append(' ').append(x.heats(d));
        }
        for (int k = 0; k < 4; k++) {
            sheet(x, k, all.append(", sheet"));
        }
        // Last, as it takes a sheet for its own.
        for (int w = 0; w < 4; w++) {
            all.append(", sorrow ").append(Desk.weep(x, 20 + w));
        }
        return all.toString();
    }

    private static void sheet(LinenLaw x, int k, StringBuilder all) {
        int lane = -1;
        for (int maybe = 0; maybe < 3; maybe++) {
            x.cell(k, -1, maybe);
            lane = x.fault() == INDEX ? maybe : lane;
        }
        all.append(" of lane ").append(lane);
        for (int i = 0; i <= SHEET_LENGTHS[k]; i++) {
            all.append(' ').append(lane < 0 ? LinenLaw.LOST : x.cell(k, i, lane)).append('/').append(x.fault());
        }
    }
}
