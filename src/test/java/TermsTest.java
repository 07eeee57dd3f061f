import java.util.function.ToLongFunction;

/** What all calls share: refusals, faults, and how answers are told. */
public final class TermsTest {
    private static final Doc DOC = new Doc("TermsTest", 0);
    private static final long LOST = LinenLaw.LOST;
    private static final int UNKNOWN = LinenLaw.UNKNOWN, OUTSIDE = LinenLaw.OUTSIDE;
    private static final int NO_FAULT = Twins.NO_FAULT, KEPT = Twins.KEPT;

    public static void main(String[] args) {
        use();
        unknown();
        outside();
        stateAndFull();
        firstOfSeveral();
        refusalsChangeNothing();
        refusalsAndFault();
        nullAndCast();
        indexAndSize();
        firstComeTo();
        faultsAnswer();
        faultsChangeNothing();
        told();
        DOC.end();
    }

    private static void due(String call, long got, long want) {
        DOC.due(call, got, want);
    }

    private static void range(String call, int last, long refusal, int faultThen, Twins.AskBy ask) {
        Twins.range(DOC, call, 0, last, refusal, faultThen, ask);
    }

    private static void use() {
        DOC.use("An object is used for at most 512 calls after it has been made");
        LinenLaw x = new LinenLaw();
        int calls = 0;
        String text = "k9999,000000;s39;s39;s39;s39;s39";
        x.sheet(0, 0, 60);
        for (int i = 0; i < text.length(); i++) {
            x.put(0, i, text.charAt(i));
        }
        x.realm(0, 0, 0, text.length());
        calls += 2 + text.length();
        for (int k = 0; calls < 511; k++, calls++) {
            x.knot(k % 5);
        }
        due("the 512th call", x.keep(), 15);
        due("there are all 32 promises", Doc.promises(), Doc.lastPromise());
    }

    private static void unknown() {
        DOC.terms("REFUSALS: UNKNOWN (there is no such LINEN, DAY, WEEPER, SHEET, place of a row)");
        int last = Twins.LAST_LINEN;
        range("ofLinen", last, UNKNOWN, KEPT, (x, l) -> x.ofLinen(l, 2));
        range("give", last, UNKNOWN, KEPT, (x, l) -> x.give(l, 2));
        range("dries", last, UNKNOWN, KEPT, (x, l) -> x.dries(l, 0));
        range("tears", last, UNKNOWN, KEPT, LinenLaw::tears);
        range("odds", last, LOST, KEPT, (x, l) -> x.odds(l, 0));
        range("as", last, UNKNOWN, NO_FAULT, (x, l) -> x.as(l, 0));
        range("heat", Twins.LAST_DAY, UNKNOWN, KEPT, LinenLaw::heat);
        range("warm", Twins.LAST_DAY, UNKNOWN, KEPT, (x, d) -> x.warm(d, 9));
        range("grieve", 3, UNKNOWN, KEPT, (x, w) -> x.grieve(w, 9));
        range("give to", 3, UNKNOWN, KEPT, (x, w) -> x.give(0, w));
        range("sheet", 3, UNKNOWN, NO_FAULT, (x, k) -> x.sheet(k, 0, 1));
        range("lose", 3, UNKNOWN, KEPT, LinenLaw::lose);
        LinenLaw none = new LinenLaw();
        due("a linen of no realm", none.tears(0), UNKNOWN);
        due("a day of no realm", none.heat(0), UNKNOWN);
    }

    private static void outside() {
        DOC.terms("OUTSIDE (another number is not as told)");
        Twins.range(DOC, "warm", 0, 9, (x, v) -> x.warm(0, v));
        Twins.range(DOC, "laws", 0, Twins.EVENINGS, LinenLaw::laws);
        Twins.range(DOC, "many", 0, 3, LinenLaw::many);
        range("sheet", 2, OUTSIDE, NO_FAULT, (x, lane) -> x.sheet(0, lane, 1));
    }

    private static void stateAndFull() {
        DOC.terms("STATE (as told)");
        due("keep", new LinenLaw().keep(), LinenLaw.STATE);
        due("it is", LinenLaw.STATE, -3);
        DOC.terms("FULL;");
        LinenLaw x = Twins.made();
        for (int k = 2; k < 8; k++) {
            due("reading", x.reading(0, 0, 0), k);
        }
        due("reading", x.reading(0, 0, 0), LinenLaw.FULL);
        due("it is", LinenLaw.FULL, -4);
    }

    private static void firstOfSeveral() {
        DOC.terms("of several the first in the order in which a call's line tells them.");
        due("unknown ahead of outside", Twins.made().warm(3, 10), UNKNOWN);
        due("unknown ahead of state", new LinenLaw().grieve(4, 0), UNKNOWN);
        due("outside ahead of state", new LinenLaw().grieve(0, 10), OUTSIDE);
        due("state ahead of outside, where told so", new LinenLaw().laws(-1), LinenLaw.STATE);
        LinenLaw x = Twins.made();
        for (int k = 2; k < 8; k++) {
            x.reading(0, 0, 0);
        }
        due("unknown ahead of full", x.reading(4, 4, 10), UNKNOWN);
        due("outside ahead of full", x.reading(0, 4, 0), OUTSIDE);
    }

    private static void refusalsChangeNothing() {
        DOC.terms("They change nothing");
        Twins.leaves(DOC, "unknown", UNKNOWN, KEPT, x -> x.give(0, 4));
        Twins.leaves(DOC, "unknown", UNKNOWN, KEPT, x -> x.tell(4));
        Twins.leaves(DOC, "outside", OUTSIDE, KEPT, x -> x.back(3));
        Twins.leaves(DOC, "outside", OUTSIDE, NO_FAULT, x -> x.sheet(1, 1, 61));
        LinenLaw none = new LinenLaw();
        due("state", none.grieve(0, 9), LinenLaw.STATE);
        due("no sorrow behind it", none.many(2), 0);
        Twins.leaves(DOC, "full", LinenLaw.FULL, KEPT, TermsTest::ninthReading);
    }

    /** Eight readings at once, one more, and the six that were not there are taken back. */
    private static long ninthReading(LinenLaw x) {
        for (int k = 2; k < 8; k++) {
            x.reading(2, 1, k);
        }
        int answer = x.reading(3, 0, 0);
        x.back(6);
        return answer;
    }

    private static void refusalsAndFault() {
        DOC.terms("(but fault(), of a call that names FAULTS).");
        due("there is one to be kept", Twins.made().fault(), KEPT);
        due("realm", behind(x -> x.realm(4, 0, 0, 0)), 0);
        due("weeping", behind(x -> x.weeping(0, 3, 0, 0, 0)), 0);
        due("sheet", behind(x -> x.sheet(0, 0, 61)), 0);
        due("put", behind(x -> x.put(4, 0, 0)), 0);
        due("cell", behind(x -> x.cell(0, 0, 3)), 0);
        due("copy", behind(x -> x.copy(0, 0, 4, 0, 0)), 0);
        due("as", behind(x -> x.as(0, 3)), 0);
        due("lose", behind(x -> x.lose(4)), KEPT);
        due("tell", behind(x -> x.tell(4)), KEPT);
        due("knot", behind(x -> x.knot(4)), KEPT);
        due("odds", behind(x -> x.odds(0, 2)), KEPT);
        due("many", behind(x -> x.many(4)), KEPT);
    }

    private static long behind(ToLongFunction<LinenLaw> ask) {
        LinenLaw x = Twins.made();
        ask.applyAsLong(x);
        return x.fault();
    }

    private static void nullAndCast() {
        DOC.terms("FAULTS are the machine's: 1 NULL (there is nothing)");
        Twins.leaves(DOC, "put", -11, 1, x -> x.put(3, 0, 0));
        DOC.terms("2 CAST (it is of another LANE, kind)");
        Twins.leaves(DOC, "copy of a lane to another", -12, 2, x -> x.copy(0, 0, 1, 0, 1));
        Twins.leaves(DOC, "a cambric taken as a lace", -12, 2, x -> x.as(0, 1));
    }

    private static void indexAndSize() {
        DOC.terms("3 INDEX (of cells from i on also where i is not 0 .. how many there are, if none of them is taken, too)");
        int end = Twins.CELLS;
        Twins.range(DOC, "realm of no cells from i on", 0, end, -13, 3, (x, i) -> x.realm(0, 0, i, 0));
        Twins.range(DOC, "weeping of no cells from i on", 0, end, -13, 3, (x, i) -> x.weeping(0, 0, i, 0, 0));
        Twins.range(DOC, "copy of no cells from i on", 0, end, -13, 3, (x, i) -> x.copy(0, i, 0, 0, 0));
        Twins.range(DOC, "copy of no cells from j on", 0, end, -13, 3, (x, j) -> x.copy(0, 0, 0, j, 0));
        Twins.range(DOC, "put", 0, end - 1, -13, 3, (x, i) -> x.put(0, i, 0));
        DOC.terms("4 SIZE (a length below 0).");
        for (int n : new int[] {-1, Integer.MIN_VALUE}) {
            Twins.leaves(DOC, "sheet of " + n, -14, 4, x -> x.sheet(0, 0, n));
            Twins.leaves(DOC, "realm of " + n, -14, 4, x -> x.realm(0, 0, 0, n));
        }
        due("a length of 0 is none", Twins.made().sheet(0, 0, 0), 1);
    }

    private static void firstComeTo() {
        DOC.terms("Of a call the first that is come to, in the order told");
        due("null ahead of size and index", Twins.made().realm(3, 0, -1, -1), -11);
        due("cast ahead of size and index", Twins.made().realm(0, 1, -1, -1), -12);
        due("size ahead of index", Twins.made().realm(0, 0, -1, -1), -14);
        due("null ahead of index", Twins.made().put(3, -1, 0), -11);
        due("cast ahead of index", Twins.made().copy(0, -1, 1, -1, -1), -12);
    }

    private static void faultsAnswer() {
        DOC.terms("it answers -10 less it");
        due("null", Twins.made().copy(0, 0, 3, 0, 0), -11);
        due("cast", Twins.made().weeping(0, 1, 0, 0, 0), -12);
        due("index", Twins.made().weeping(0, 0, 0, Twins.CELLS + 1, 0), -13);
        due("size", Twins.made().sheet(3, 1, -1), -14);
        DOC.terms("(LOST, where a long is answered, as for refusals)");
        due("null", Twins.made().cell(3, 0, 0), LOST);
        due("cast", Twins.made().cell(0, 0, 1), LOST);
        due("index", Twins.made().cell(0, Twins.CELLS, 0), LOST);
        due("unknown", Twins.made().cell(4, 0, 0), LOST);
        due("outside", Twins.made().cell(0, 0, 3), LOST);
        due("unknown", Twins.made().odds(4, 0), LOST);
        due("outside", Twins.made().odds(0, 2), LOST);
        due("it is", LOST, Long.MIN_VALUE);
    }

    private static void faultsChangeNothing() {
        DOC.terms("and changes nothing;");
        Twins.leaves(DOC, "null", -11, 1, x -> x.copy(0, 0, 3, 0, 2));
        Twins.leaves(DOC, "cast", -12, 2, x -> x.realm(0, 1, 0, Twins.CELLS));
        Twins.leaves(DOC, "index", -13, 3, x -> x.copy(0, 0, 0, 1, Twins.CELLS));
        Twins.leaves(DOC, "size", -14, 4, x -> x.sheet(0, 0, -1));
        Twins.leaves(DOC, "lost", LOST, 2, x -> x.cell(0, 0, 2));
        DOC.terms("fault() tells it.");
        due("null", behind(x -> x.put(3, 0, 0)), 1);
        due("cast", behind(x -> x.as(0, 2)), 2);
        due("index", behind(x -> x.put(0, -1, 0)), 3);
        due("size", behind(x -> x.sheet(0, 0, -1)), 4);
        due("null, of a long", behind(x -> x.cell(3, 0, 0)), 1);
    }

    private static void told() {
        DOC.terms("NONE is -9.");
        due("it is", LinenLaw.NONE, -9);
        due("a weeping without a first wrong", Desk.weep(Twins.made(), 1), -9);
        DOC.terms("Sets are told as bits (bit k for number k).");
        LinenLaw x = Desk.of("k0000,0;c00;c01;c00;c01;c01");
        due("linens 1, 3, 4", x.laws(0), 2 + 8 + 16);
        x.reading(0, 0, 9);
        due("the damp 9", x.damps(0), 512);
        x.back(1);
        x.reading(1, 1, 1);
        due("the heat 0", x.heats(0), 1);
        DOC.terms("Shares are told as upper and lower number (above 0) in least terms.");
        LinenLaw odd = Desk.of("k0000,10;c01;c00;c02");
        due("2 of 4, upper", odd.odds(0, 0), 1);
        due("2 of 4, lower", odd.odds(0, 1), 2);
        due("0 of 4, upper", odd.odds(1, 0), 0);
        due("0 of 4, lower", odd.odds(1, 1), 1);
        due("4 of 4, upper", odd.odds(2, 0), 1);
        due("4 of 4, lower", odd.odds(2, 1), 1);
    }
}
