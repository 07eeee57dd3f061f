import java.util.Arrays;

/**
 * Handkerchiefs of state: what is wept over, by the right weeper into the right linen, is law while it is damp.
 * Words in capitals (REALM, LINEN, SHEET, FAULT ...) are those of ../shared/DOC.md.
 */
public final class LinenLaw {
    public static final int UNKNOWN = -1, OUTSIDE = -2, STATE = -3, FULL = -4, NONE = -9;
    public static final long LOST = Long.MIN_VALUE;

    private static final int NO_FAULT = 0, NULL = 1, CAST = 2, INDEX = 3, SIZE = 4;
    private static final int FAULT_BASE = -10, FIRST_BASE = -100;
    private static final int CAMBRIC = 0, LACE = 1, SILK = 2, KINDS = 3;
    private static final int WEEPERS = 4, MOST_DAYS = 6, MOST_LINENS = 5;
    private static final int DIGITS = 10, MOST_DIGIT = 9, MOST_DAMP = 9;
    private static final int MOST_READINGS = 8, MOST_ACTS = 40;
    private static final int SHEETS = 4, LANES = 3, MOST_CELLS = 60;

    private final Realm state = new Realm();
    private final RealmText text = new RealmText();
    private final Weeping told = new Weeping();
    private final Keeping keeping = new Keeping();
    private final Readings known = new Readings();
    private final Telling bodies = new Telling();
    private final Sheet[] sheets = new Sheet[SHEETS];
    private int latestFault = NO_FAULT;

    public LinenLaw() {
        for (int k = 0; k < sheets.length; k++) {
            sheets[k] = new Sheet();
        }
    }

    // ---- 1 the realm

    public int realm(int sheet, int lane, int i, int n) {
        latestFault = NO_FAULT;
        Sheet from = sheetOf(sheet);
        if (from == null) {
            return UNKNOWN;
        }
        if (!isBelow(lane, LANES)) {
            return OUTSIDE;
        }
        int fault = from.faultOfCells(lane, i, n);
        if (fault != NO_FAULT) {
            return faulted(fault);
        }
        int first = text.firstFault(from, i, n);
        if (first != NONE) {
            return FIRST_BASE - first;
        }
        text.fill(state);
        known.count = 0;
        return state.linens;
    }

    public int ofLinen(int l, int what) {
        if (!state.hasLinen(l)) {
            return UNKNOWN;
        }
        if (what == 0) {
            return at(state.kindOf, l);
        }
        if (what == 1) {
            return at(state.officeOf, l);
        }
        return what == 2 ? at(state.dampOf, l) : OUTSIDE;
    }

    public int heat(int d) {
        return state.hasDay(d) ? at(state.heatOf, d) : UNKNOWN;
    }

    public int warm(int d, int v) {
        if (!state.hasDay(d)) {
            return UNKNOWN;
        }
        return isBelow(v, DIGITS) ? exchange(state.heatOf, d, v) : OUTSIDE;
    }

    public int grieve(int w, int v) {
        if (!isBelow(w, WEEPERS)) {
            return UNKNOWN;
        }
        if (!isBelow(v, DIGITS)) {
            return OUTSIDE;
        }
        return state.stands() ? exchange(state.sorrowOf, w, v) : STATE;
    }

    public int give(int l, int w) {
        if (!state.hasLinen(l) || !isBelow(w, WEEPERS)) {
            return UNKNOWN;
        }
        return exchange(state.officeOf, l, w);
    }

    public int dries(int l, int d) {
        if (!state.hasLinen(l) || !state.hasDay(d)) {
            return UNKNOWN;
        }
        return state.drying(l, d);
    }

    // ---- 2 what is law

    public int damp(int l, int t) {
        if (!state.hasLinen(l)) {
            return UNKNOWN;
        }
        return state.hasEvenings(t) ? state.dampBehind(l, t) : OUTSIDE;
    }

    public int laws(int t) {
        if (!state.stands()) {
            return STATE;
        }
        return state.hasEvenings(t) ? state.lawsBehind(t) : OUTSIDE;
    }

    public int weeping(int sheet, int lane, int i, int n, int what) {
        latestFault = NO_FAULT;
        Sheet from = sheetOf(sheet);
        if (from == null) {
            return UNKNOWN;
        }
        if (!isBelow(lane, LANES) || !isBelow(n, MOST_ACTS + 1) || !Weeping.isAsked(what)) {
            return OUTSIDE;
        }
        if (!state.stands()) {
            return STATE;
        }
        int fault = from.faultOfCells(lane, i, n);
        if (fault != NO_FAULT) {
            return faulted(fault);
        }
        if (!told.areActs(state, from, i, n)) {
            return OUTSIDE;
        }
        told.play(state, from, i, n);
        return told.answer(state, what);
    }

    // ---- 3 to the end

    public int tears(int l) {
        return state.hasLinen(l) ? keeping.fewestActs(state, l) : UNKNOWN;
    }

    public int keep() {
        return state.stands() ? keeping.largestSet(state) : STATE;
    }

    public int appoint(int l) {
        return state.hasLinen(l) ? keeping.bestOffice(state, l) : UNKNOWN;
    }

    public int span(int l, int d) {
        if (!state.hasLinen(l) || !state.hasDay(d)) {
            return UNKNOWN;
        }
        return state.mostHeat(l, d);
    }

    // ---- 4 how damp they were

    public int reading(int l, int t, int v) {
        if (!state.hasLinen(l)) {
            return UNKNOWN;
        }
        if (!state.hasEvenings(t) || !isBelow(v, DIGITS)) {
            return OUTSIDE;
        }
        return known.count < MOST_READINGS ? known.append(l, t, v) : FULL;
    }

    public int back(int k) {
        if (k < 0 || k > known.count) {
            return OUTSIDE;
        }
        known.count -= k;
        return known.count;
    }

    public int damps(int l) {
        return state.hasLinen(l) ? known.fitting(state, state.dampOf, l, DIGITS) : UNKNOWN;
    }

    public int kinds(int l) {
        return state.hasLinen(l) ? known.fitting(state, state.kindOf, l, KINDS) : UNKNOWN;
    }

    public int heats(int d) {
        return state.hasDay(d) ? known.fitting(state, state.heatOf, d, DIGITS) : UNKNOWN;
    }

    public long odds(int l, int which) {
        if (!state.hasLinen(l) || !isBelow(which, 2)) {
            return LOST;
        }
        int lower = 1 << state.days;
        int upper = state.waysToBeLaw(l);
        // The lower number is a power of 2, so halving both is all that there is to reduce by.
        for (int halved = 0; halved < MOST_DAYS && upper % 2 == 0 && lower % 2 == 0; halved++) {
            upper /= 2;
            lower /= 2;
        }
        return which == 0 ? upper : lower;
    }

    // ---- 5 sheets, parts

    public int sheet(int k, int lane, int n) {
        latestFault = NO_FAULT;
        Sheet row = sheetOf(k);
        if (row == null) {
            return UNKNOWN;
        }
        if (!isBelow(lane, LANES) || n > MOST_CELLS) {
            return OUTSIDE;
        }
        if (n < 0) {
            return faulted(SIZE);
        }
        row.renew(lane, n);
        return 1;
    }

    public int lose(int k) {
        Sheet row = sheetOf(k);
        if (row == null) {
            return UNKNOWN;
        }
        int had = row.hasRow ? 1 : 0;
        row.hasRow = false;
        return had;
    }

    public int put(int k, int i, int v) {
        latestFault = NO_FAULT;
        Sheet row = sheetOf(k);
        if (row == null) {
            return UNKNOWN;
        }
        if (!row.hasRow) {
            return faulted(NULL);
        }
        if (!row.holds(i, 1)) {
            return faulted(INDEX);
        }
        row.store(i, v);
        return 1;
    }

    public long cell(int k, int i, int lane) {
        latestFault = NO_FAULT;
        Sheet row = sheetOf(k);
        if (row == null || !isBelow(lane, LANES)) {
            return LOST;
        }
        latestFault = row.faultOfCells(lane, i, 1);
        return latestFault == NO_FAULT ? row.number(i) : LOST;
    }

    public int copy(int k, int i, int other, int j, int n) {
        latestFault = NO_FAULT;
        Sheet from = sheetOf(k);
        Sheet to = sheetOf(other);
        if (from == null || to == null) {
            return UNKNOWN;
        }
        if (!from.hasRow || !to.hasRow) {
            return faulted(NULL);
        }
        if (from.lane != to.lane) {
            return faulted(CAST);
        }
        if (!from.holds(i, n) || !to.holds(j, n)) {
            return faulted(INDEX);
        }
        System.arraycopy(from.cells, i, to.cells, j, n);
        return n;
    }

    public int tell(int l) {
        if (!state.hasLinen(l)) {
            return UNKNOWN;
        }
        int dampNow = at(state.dampOf, l);
        int kind = at(state.kindOf, l);
        if (kind == CAMBRIC) {
            return bodies.cambricTells(dampNow);
        }
        return kind == LACE ? bodies.laceTells(dampNow) : bodies.silkTells(dampNow);
    }

    public int knot(int l) {
        if (!state.hasLinen(l)) {
            return UNKNOWN;
        }
        return at(state.kindOf, l) == SILK ? bodies.silkIsKnotted() : bodies.isKnotted(l);
    }

    public int as(int l, int kind) {
        latestFault = NO_FAULT;
        if (!state.hasLinen(l)) {
            return UNKNOWN;
        }
        if (!isBelow(kind, KINDS)) {
            return OUTSIDE;
        }
        // Each kind is one of all the kinds numbered below it.
        return at(state.kindOf, l) >= kind ? 1 : faulted(CAST);
    }

    public int trace() {
        return bodies.trail;
    }

    public int fault() {
        return latestFault;
    }

    public int many(int what) {
        switch (what) {
            case 0:
                return state.linens;
            case 1:
                return state.days;
            case 2:
                return state.allSorrow();
            case 3:
                return known.count;
            default:
                return OUTSIDE;
        }
    }

    // ---- what the calls share

    private Sheet sheetOf(int k) {
        return k >= 0 && k < sheets.length ? sheets[k] : null;
    }

    private int faulted(int number) {
        latestFault = number;
        return FAULT_BASE - number;
    }

    private static boolean isBelow(int v, int limit) {
        return v >= 0 && v < limit;
    }

    // Every index into a row of numbers goes through these two, so that none is used before it has been looked at.
    private static int at(int[] row, int i) {
        return i >= 0 && i < row.length ? row[i] : 0;
    }

    private static void set(int[] row, int i, int v) {
        if (i >= 0 && i < row.length) {
            row[i] = v;
        }
    }

    private static int exchange(int[] row, int i, int v) {
        int was = at(row, i);
        set(row, i, v);
        return was;
    }

    /** A REALM, or none: then it has no DAYS and no LINENS, and all SORROW is 0. */
    private static final class Realm {
        final int[] sorrowOf = new int[WEEPERS];
        final int[] heatOf = new int[MOST_DAYS];
        final int[] kindOf = new int[MOST_LINENS];
        final int[] officeOf = new int[MOST_LINENS];
        final int[] dampOf = new int[MOST_LINENS];
        int days = 0;
        int linens = 0;

        boolean stands() {
            return linens > 0;
        }

        boolean hasLinen(int l) {
            return isBelow(l, linens);
        }

        boolean hasDay(int d) {
            return isBelow(d, days);
        }

        boolean hasEvenings(int t) {
            return t >= 0 && t <= days;
        }

        int allSorrow() {
            int sum = 0;
            for (int w = 0; w < WEEPERS; w++) {
                sum += at(sorrowOf, w);
            }
            return sum;
        }

        int drying(int l, int d) {
            return dryingBy(at(kindOf, l), at(heatOf, d));
        }

        int dryingBy(int kind, int hot) {
            if (kind == CAMBRIC) {
                return hot;
            }
            int ofLace = hot + 1;
            return kind == LACE ? ofLace : 2 * ofLace;
        }

        int dampBehind(int l, int t) {
            return dampOnCoolDays(l, t, 0);
        }

        /** DAMP of a LINEN behind t EVENINGS without TEARS, if the DAYS of a set have no HEAT. */
        int dampOnCoolDays(int l, int t, int coolDays) {
            int left = at(dampOf, l);
            for (int d = 0; d < t && d < days; d++) {
                boolean cool = (coolDays >> d & 1) == 1;
                left = Math.max(0, left - dryingBy(at(kindOf, l), cool ? 0 : at(heatOf, d)));
            }
            return left;
        }

        int lawsBehind(int t) {
            int found = 0;
            for (int l = 0; l < linens; l++) {
                if (dampBehind(l, t) > 0) {
                    found |= 1 << l;
                }
            }
            return found;
        }

        /** The SPAN of a LINEN and a DAY. */
        int mostHeat(int l, int d) {
            int was = at(heatOf, d);
            int most = NONE;
            for (int v = 0; v < DIGITS; v++) {
                set(heatOf, d, v);
                if (dampBehind(l, days) > 0) {
                    most = v;
                }
            }
            set(heatOf, d, was);
            return most;
        }

        /** By how many of all sets of cool DAYS a LINEN is LAW behind the last EVENING. */
        int waysToBeLaw(int l) {
            int ways = 0;
            for (int coolDays = 0; coolDays < 1 << days; coolDays++) {
                if (dampOnCoolDays(l, days, coolDays) > 0) {
                    ways++;
                }
            }
            return ways;
        }
    }

    /** The TEXT of a REALM, in cells of a SHEET. */
    private static final class RealmText {
        private static final int NO_CODE = -1;
        private static final int SORROW_PLACE = 1, COMMA_PLACE = 5, HEAT_PLACE = 6, LINEN_LENGTH = 4;
        private Sheet source = null;
        private int start = 0;
        private int length = 0;
        private int days = 0;
        private int linens = 0;

        /** The FIRST FAULT of the n cells of a SHEET from i on; NONE. */
        int firstFault(Sheet from, int i, int n) {
            source = from;
            start = i;
            length = n;
            if (codeAt(0) != 'k') {
                return 0;
            }
            for (int p = SORROW_PLACE; p < COMMA_PLACE; p++) {
                if (!hasDigit(p, MOST_DIGIT)) {
                    return p;
                }
            }
            if (codeAt(COMMA_PLACE) != ',') {
                return COMMA_PLACE;
            }
            days = 0;
            for (int d = 0; d < MOST_DAYS && hasDigit(HEAT_PLACE + d, MOST_DIGIT); d++) {
                days++;
            }
            return days == 0 ? HEAT_PLACE : firstFaultOfLinens();
        }

        // A text that ends too soon has no code at its length, so that place is told like a wrong code's.
        private int firstFaultOfLinens() {
            linens = 0;
            for (int l = 0; l < MOST_LINENS; l++) {
                int p = linenPlace(l);
                if (l > 0 && p == length) {
                    return NONE;
                }
                if (codeAt(p) != ';') {
                    return p;
                }
                if (kindOfLetter(codeAt(p + 1)) == NONE) {
                    return p + 1;
                }
                if (!hasDigit(p + 2, WEEPERS - 1)) {
                    return p + 2;
                }
                if (!hasDigit(p + 3, MOST_DIGIT)) {
                    return p + 3;
                }
                linens++;
            }
            int end = linenPlace(MOST_LINENS);
            return end == length ? NONE : end;
        }

        /** Makes all of the REALM anew by a TEXT that has no FIRST FAULT. */
        void fill(Realm realm) {
            realm.days = days;
            realm.linens = linens;
            for (int w = 0; w < WEEPERS; w++) {
                set(realm.sorrowOf, w, digitAt(SORROW_PLACE + w));
            }
            for (int d = 0; d < days; d++) {
                set(realm.heatOf, d, digitAt(HEAT_PLACE + d));
            }
            for (int l = 0; l < linens; l++) {
                int p = linenPlace(l);
                set(realm.kindOf, l, kindOfLetter(codeAt(p + 1)));
                set(realm.officeOf, l, digitAt(p + 2));
                set(realm.dampOf, l, digitAt(p + 3));
            }
        }

        private int linenPlace(int l) {
            return HEAT_PLACE + days + LINEN_LENGTH * l;
        }

        private int codeAt(int p) {
            return source != null && isBelow(p, length) ? source.number(start + p) : NO_CODE;
        }

        private int digitAt(int p) {
            return codeAt(p) - '0';
        }

        private boolean hasDigit(int p, int most) {
            return codeAt(p) >= '0' && codeAt(p) <= '0' + most;
        }

        private static int kindOfLetter(int code) {
            switch (code) {
                case 'c':
                    return CAMBRIC;
                case 'l':
                    return LACE;
                case 's':
                    return SILK;
                default:
                    return NONE;
            }
        }
    }

    /** WEEPING as it is told: a row of ACTS, played on what a REALM has, which it leaves as it is. */
    private static final class Weeping {
        private static final int EVENING = 40, ACT_BASE = 10, WETTER = 3;
        private static final int ASK_LAWS = 0, ASK_WRONG = 1, ASK_LASTING = 2, ASK_ACTS = 3;
        private static final int ASK_DAMP = 10, ASK_SORROW = 20;
        private final int[] sorrowLeft = new int[WEEPERS];
        private final int[] dampNow = new int[MOST_LINENS];
        private int evenings = 0;
        private int acts = 0;
        private int lasting = 0;
        private int firstWrong = NONE;

        static boolean isAsked(int what) {
            return what >= ASK_LAWS && what <= ASK_ACTS
                || what >= ASK_DAMP && what < ASK_DAMP + MOST_LINENS
                || what >= ASK_SORROW && what < ASK_SORROW + WEEPERS;
        }

        boolean areActs(Realm realm, Sheet row, int i, int n) {
            for (int p = 0; p < n; p++) {
                int code = row.number(i + p);
                boolean byWeeper = isBelow(code, EVENING) && realm.hasLinen(code % ACT_BASE);
                if (code != EVENING && !byWeeper) {
                    return false;
                }
            }
            return true;
        }

        void play(Realm realm, Sheet row, int i, int n) {
            begin(realm);
            for (int p = 0; p < n && firstWrong == NONE; p++) {
                int code = row.number(i + p);
                boolean can = code == EVENING ? eveningComes(realm)
                    : weeps(realm, code / ACT_BASE, code % ACT_BASE);
                if (!can) {
                    firstWrong = p;
                }
            }
        }

        private void begin(Realm realm) {
            for (int w = 0; w < WEEPERS; w++) {
                set(sorrowLeft, w, at(realm.sorrowOf, w));
            }
            for (int l = 0; l < MOST_LINENS; l++) {
                set(dampNow, l, at(realm.dampOf, l));
            }
            evenings = 0;
            acts = 0;
            lasting = (1 << realm.linens) - 1;
            firstWrong = NONE;
        }

        private boolean eveningComes(Realm realm) {
            if (evenings >= realm.days) {
                return false;
            }
            for (int l = 0; l < realm.linens; l++) {
                set(dampNow, l, Math.max(0, at(dampNow, l) - realm.drying(l, evenings)));
            }
            evenings++;
            lasting &= lawsNow(realm);
            return true;
        }

        private boolean weeps(Realm realm, int w, int l) {
            if (at(sorrowLeft, w) <= 0) {
                return false;
            }
            set(sorrowLeft, w, at(sorrowLeft, w) - 1);
            boolean inOffice = at(realm.officeOf, l) == w;
            set(dampNow, l, inOffice ? Math.min(MOST_DAMP, at(dampNow, l) + WETTER) : 0);
            acts++;
            return true;
        }

        private int lawsNow(Realm realm) {
            int found = 0;
            for (int l = 0; l < realm.linens; l++) {
                if (at(dampNow, l) > 0) {
                    found |= 1 << l;
                }
            }
            return found;
        }

        int answer(Realm realm, int what) {
            if (what == ASK_WRONG) {
                return firstWrong;
            }
            if (firstWrong != NONE) {
                return FIRST_BASE - firstWrong;
            }
            if (what == ASK_LAWS) {
                return lawsNow(realm);
            }
            if (what == ASK_LASTING) {
                return lasting;
            }
            if (what == ASK_ACTS) {
                return acts;
            }
            if (what >= ASK_SORROW) {
                return at(sorrowLeft, what - ASK_SORROW);
            }
            return realm.hasLinen(what - ASK_DAMP) ? at(dampNow, what - ASK_DAMP) : NONE;
        }
    }

    /** By how few TEARS LINENS are LAW behind each EVENING, and which of them can be so at once. */
    private static final class Keeping {
        private static final int NEVER = 1000;
        /** By DAMP: the fewest ACTS by which the LINEN has so much now, having been LAW behind each EVENING. */
        private final int[] fewestFor = new int[MOST_DAMP + 1];
        private final int[] tearsOf = new int[MOST_LINENS];

        int fewestActs(Realm realm, int l) {
            Arrays.fill(fewestFor, NEVER);
            set(fewestFor, at(realm.dampOf, l), 0);
            for (int d = 0; d < realm.days; d++) {
                weepAsOneLikes();
                dryAndStayLaw(realm.drying(l, d));
            }
            int fewest = NEVER;
            for (int v = 1; v <= MOST_DAMP; v++) {
                fewest = Math.min(fewest, at(fewestFor, v));
            }
            return fewest < NEVER ? fewest : NONE;
        }

        // Goes up by DAMP, so that what one ACT reaches is where a second one begins.
        private void weepAsOneLikes() {
            for (int v = 0; v < MOST_DAMP; v++) {
                int wetter = Math.min(MOST_DAMP, v + Weeping.WETTER);
                set(fewestFor, wetter, Math.min(at(fewestFor, wetter), at(fewestFor, v) + 1));
            }
        }

        private void dryAndStayLaw(int drying) {
            set(fewestFor, 0, NEVER);
            for (int v = 1; v <= MOST_DAMP; v++) {
                boolean reached = v + drying <= MOST_DAMP;
                set(fewestFor, v, reached ? at(fewestFor, v + drying) : NEVER);
            }
        }

        /** KEEP. */
        int largestSet(Realm realm) {
            for (int l = 0; l < realm.linens; l++) {
                set(tearsOf, l, fewestActs(realm, l));
            }
            int best = 0;
            for (int some = 1; some < 1 << realm.linens; some++) {
                if (Integer.bitCount(some) > Integer.bitCount(best) && canAllBeKept(realm, some)) {
                    best = some;
                }
            }
            return best;
        }

        private boolean canAllBeKept(Realm realm, int some) {
            for (int w = 0; w < WEEPERS; w++) {
                int left = at(realm.sorrowOf, w);
                for (int l = 0; l < realm.linens; l++) {
                    boolean inOffice = (some >> l & 1) == 1 && at(realm.officeOf, l) == w;
                    if (inOffice && at(tearsOf, l) == NONE) {
                        return false;
                    }
                    left -= inOffice ? at(tearsOf, l) : 0;
                }
                if (left < 0) {
                    return false;
                }
            }
            return true;
        }

        /** APPOINT for a LINEN. */
        int bestOffice(Realm realm, int l) {
            int was = at(realm.officeOf, l);
            int best = 0;
            int most = -1;
            for (int w = 0; w < WEEPERS; w++) {
                set(realm.officeOf, l, w);
                int kept = Integer.bitCount(largestSet(realm));
                if (kept > most) {
                    most = kept;
                    best = w;
                }
            }
            set(realm.officeOf, l, was);
            return best;
        }
    }

    /** The READINGS that are told. */
    private static final class Readings {
        private final int[] linenOf = new int[MOST_READINGS];
        private final int[] eveningsOf = new int[MOST_READINGS];
        private final int[] dampOf = new int[MOST_READINGS];
        int count = 0;

        int append(int l, int t, int v) {
            set(linenOf, count, l);
            set(eveningsOf, count, t);
            set(dampOf, count, v);
            count++;
            return count - 1;
        }

        /** The numbers below a limit by which, in one place of the REALM, all READINGS are so; as a set. */
        int fitting(Realm realm, int[] row, int place, int limit) {
            int was = at(row, place);
            int fit = 0;
            for (int v = 0; v < limit; v++) {
                set(row, place, v);
                if (areSo(realm)) {
                    fit |= 1 << v;
                }
            }
            set(row, place, was);
            return fit;
        }

        private boolean areSo(Realm realm) {
            for (int r = 0; r < count; r++) {
                if (realm.dampBehind(at(linenOf, r), at(eveningsOf, r)) != at(dampOf, r)) {
                    return false;
                }
            }
            return true;
        }
    }

    /** A SHEET: nothing, or a row of a LANE. The cells are made once, and a new row clears them. */
    private static final class Sheet {
        private static final int BYTES = 0, SHORTS = 1;
        final int[] cells = new int[MOST_CELLS];
        boolean hasRow = false;
        int lane = 0;
        private int length = 0;

        void renew(int newLane, int n) {
            hasRow = true;
            lane = newLane;
            length = Math.max(0, Math.min(n, MOST_CELLS));
            Arrays.fill(cells, 0);
        }

        /** The FAULT that is come to if n cells from i on are taken as a row of a LANE. */
        int faultOfCells(int asLane, int i, int n) {
            if (!hasRow) {
                return NULL;
            }
            if (lane != asLane) {
                return CAST;
            }
            if (n < 0) {
                return SIZE;
            }
            return holds(i, n) ? NO_FAULT : INDEX;
        }

        boolean holds(int i, int n) {
            return i >= 0 && n >= 0 && i <= length && n <= length - i;
        }

        int number(int i) {
            return at(cells, i);
        }

        void store(int i, int v) {
            set(cells, i, cut(v));
        }

        private int cut(int v) {
            if (lane == BYTES) {
                return (byte) v;
            }
            return lane == SHORTS ? (short) v : v;
        }
    }

    /** The bodies that tell of LINENS, and what they leave in TRACE. */
    private static final class Telling {
        private static final int LACE_MORE = 100, SILK_KNOT = 30;
        int trail = 0;

        private void leave(int number) {
            trail = 31 * trail + number;
        }

        int cambricTells(int dampNow) {
            leave(1);
            return dampNow;
        }

        int laceTells(int dampNow) {
            leave(2);
            return cambricTells(dampNow) + LACE_MORE;
        }

        int silkTells(int dampNow) {
            leave(3);
            int byLace = laceTells(dampNow);
            return byLace + cambricTells(dampNow);
        }

        int isKnotted(int number) {
            leave(4);
            return number;
        }

        int silkIsKnotted() {
            leave(5);
            return SILK_KNOT;
        }
    }
}
