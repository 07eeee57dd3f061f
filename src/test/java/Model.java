import java.util.ArrayList;
import java.util.List;
import java.util.function.IntPredicate;
import java.util.regex.Matcher;
import java.util.regex.Pattern;

/**
 * The document once more, as a check on the class: written another way, with no care for what it costs.
 * Rows are real rows and kinds are real classes, so that the faults are what the Java machine itself throws.
 */
final class Model {
    private static final Pattern TEXT = Pattern.compile("k[0-9]{4},[0-9]{1,6}(;[cls][0-3][0-9]){1,5}");
    private static final int UNKNOWN = -1, OUTSIDE = -2, STATE = -3, FULL = -4, NONE = -9;

    private int[] sorrow = new int[4];
    private int[] heat = new int[0];
    private List<Cambric> linens = new ArrayList<>();
    private List<int[]> readings = new ArrayList<>();
    private final Object[] sheets = new Object[4];
    private int trace = 0;
    private int fault = 0;

    private interface Knotted {
        default int knotOf(Model m, int number) {
            m.leave(4);
            return number;
        }
    }

    private static class Cambric implements Knotted {
        int office;
        int damp;

        int drying(int hot) {
            return hot;
        }

        int telling(Model m) {
            return cambric(m);
        }

        final int cambric(Model m) {
            m.leave(1);
            return damp;
        }
    }

    private static class Lace extends Cambric {
        @Override
        int drying(int hot) {
            return super.drying(hot) + 1;
        }

        @Override
        int telling(Model m) {
            m.leave(2);
            return super.telling(m) + 100;
        }
    }

    private static final class Silk extends Lace {
        @Override
        int drying(int hot) {
            return super.drying(hot) * 2;
        }

        @Override
        int telling(Model m) {
            m.leave(3);
            return super.telling(m) + cambric(m);
        }

        @Override
        public int knotOf(Model m, int number) {
            m.leave(5);
            return 30;
        }
    }

    private void leave(int number) {
        trace = trace * 31 + number;
    }

    private static Cambric linenOf(char letter, int office, int damp) {
        Cambric made = letter == 's' ? new Silk() : letter == 'l' ? new Lace() : new Cambric();
        made.office = office;
        made.damp = damp;
        return made;
    }

    private static int kindOf(Cambric c) {
        return c instanceof Silk ? 2 : c instanceof Lace ? 1 : 0;
    }

    private boolean noLinen(int l) {
        return l < 0 || l >= linens.size();
    }

    private boolean noDay(int d) {
        return d < 0 || d >= heat.length;
    }

    // ---- 5 sheets: what is asked of a sheet may throw, and the fault is what was thrown

    private interface Asked {
        long answer();
    }

    private long faulting(Asked asked, boolean inLong) {
        fault = 0;
        try {
            return asked.answer();
        } catch (NullPointerException e) {
            fault = 1;
        } catch (ClassCastException | ArrayStoreException e) {
            fault = 2;
        } catch (IndexOutOfBoundsException e) {
            fault = 3;
        } catch (NegativeArraySizeException e) {
            fault = 4;
        }
        return inLong ? Long.MIN_VALUE : -10 - fault;
    }

    private int[] taken(int sheet, int lane, int i, int n) {
        Object row = sheets[sheet];
        byte[] bytes = lane == 0 ? (byte[]) row : null;
        short[] shorts = lane == 1 ? (short[]) row : null;
        int[] ints = lane == 2 ? (int[]) row : null;
        int length = lane == 0 ? bytes.length : lane == 1 ? shorts.length : ints.length;
        // A length below 0 is thrown for ahead of an index; one beyond must not make a row first.
        int[] cells = new int[Math.min(n, length)];
        java.util.Objects.checkFromIndexSize(i, n, length);
        for (int p = 0; p < n; p++) {
            cells[p] = lane == 0 ? bytes[i + p] : lane == 1 ? shorts[i + p] : ints[i + p];
        }
        return cells;
    }

    int sheet(int k, int lane, int n) {
        return (int) faulting(() -> {
            if (k < 0 || k > 3) {
                return UNKNOWN;
            }
            if (lane < 0 || lane > 2 || n > 60) {
                return OUTSIDE;
            }
            sheets[k] = lane == 0 ? new byte[n] : lane == 1 ? new short[n] : new int[n];
            return 1;
        }, false);
    }

    int lose(int k) {
        if (k < 0 || k > 3) {
            return UNKNOWN;
        }
        int had = sheets[k] == null ? 0 : 1;
        sheets[k] = null;
        return had;
    }

    int put(int k, int i, int v) {
        return (int) faulting(() -> {
            if (k < 0 || k > 3) {
                return UNKNOWN;
            }
            if (sheets[k] instanceof byte[] bytes) {
                bytes[i] = (byte) v;
            } else if (sheets[k] instanceof short[] shorts) {
                shorts[i] = (short) v;
            } else {
                ((int[]) sheets[k])[i] = v;
            }
            return 1;
        }, false);
    }

    long cell(int k, int i, int lane) {
        return faulting(() -> {
            if (k < 0 || k > 3 || lane < 0 || lane > 2) {
                return Long.MIN_VALUE;
            }
            return taken(k, lane, i, 1)[0];
        }, true);
    }

    int copy(int k, int i, int other, int j, int n) {
        return (int) faulting(() -> {
            if (k < 0 || k > 3 || other < 0 || other > 3) {
                return UNKNOWN;
            }
            System.arraycopy(sheets[k], i, sheets[other], j, n);
            return n;
        }, false);
    }

    // ---- 1 the realm

    int realm(int sheet, int lane, int i, int n) {
        return (int) faulting(() -> {
            if (sheet < 0 || sheet > 3) {
                return UNKNOWN;
            }
            if (lane < 0 || lane > 2) {
                return OUTSIDE;
            }
            StringBuilder text = new StringBuilder();
            for (int code : taken(sheet, lane, i, n)) {
                text.append(code > 0 && code < 128 ? (char) code : '?');
            }
            return realmBy(text.toString());
        }, false);
    }

    private int realmBy(String text) {
        for (int p = 0; p <= text.length(); p++) {
            Matcher ahead = TEXT.matcher(text.substring(0, p));
            if (!ahead.matches() && !ahead.hitEnd()) {
                return -100 - (p - 1);
            }
        }
        if (!TEXT.matcher(text).matches()) {
            return -100 - text.length();
        }
        String[] parts = text.split("[,;]");
        for (int w = 0; w < 4; w++) {
            sorrow[w] = parts[0].charAt(w + 1) - '0';
        }
        heat = parts[1].chars().map(c -> c - '0').toArray();
        linens = new ArrayList<>();
        for (int p = 2; p < parts.length; p++) {
            linens.add(linenOf(parts[p].charAt(0), parts[p].charAt(1) - '0', parts[p].charAt(2) - '0'));
        }
        readings = new ArrayList<>();
        return linens.size();
    }

    int ofLinen(int l, int what) {
        if (noLinen(l)) {
            return UNKNOWN;
        }
        Cambric c = linens.get(l);
        return what == 0 ? kindOf(c) : what == 1 ? c.office : what == 2 ? c.damp : OUTSIDE;
    }

    int heat(int d) {
        return noDay(d) ? UNKNOWN : heat[d];
    }

    int warm(int d, int v) {
        if (noDay(d)) {
            return UNKNOWN;
        }
        if (v < 0 || v > 9) {
            return OUTSIDE;
        }
        int was = heat[d];
        heat[d] = v;
        return was;
    }

    int grieve(int w, int v) {
        if (w < 0 || w > 3) {
            return UNKNOWN;
        }
        if (v < 0 || v > 9) {
            return OUTSIDE;
        }
        if (linens.isEmpty()) {
            return STATE;
        }
        int was = sorrow[w];
        sorrow[w] = v;
        return was;
    }

    int give(int l, int w) {
        if (noLinen(l) || w < 0 || w > 3) {
            return UNKNOWN;
        }
        int was = linens.get(l).office;
        linens.get(l).office = w;
        return was;
    }

    int dries(int l, int d) {
        return noLinen(l) || noDay(d) ? UNKNOWN : linens.get(l).drying(heat[d]);
    }

    // ---- 2 what is law

    private static int dampBehind(Cambric c, int[] heats, int t) {
        int left = c.damp;
        for (int d = 0; d < t; d++) {
            left -= c.drying(heats[d]);
        }
        return left > 0 ? left : 0;
    }

    int damp(int l, int t) {
        if (noLinen(l)) {
            return UNKNOWN;
        }
        return t < 0 || t > heat.length ? OUTSIDE : dampBehind(linens.get(l), heat, t);
    }

    private static int bits(int n, IntPredicate in) {
        int set = 0;
        for (int k = 0; k < n; k++) {
            set += in.test(k) ? 1 << k : 0;
        }
        return set;
    }

    int laws(int t) {
        if (linens.isEmpty()) {
            return STATE;
        }
        return t < 0 || t > heat.length ? OUTSIDE : bits(linens.size(), l -> damp(l, t) > 0);
    }

    int weeping(int sheet, int lane, int i, int n, int what) {
        return (int) faulting(() -> {
            if (sheet < 0 || sheet > 3) {
                return UNKNOWN;
            }
            boolean asked = what >= 0 && what <= 3 || what >= 10 && what <= 14 || what >= 20 && what <= 23;
            if (lane < 0 || lane > 2 || n < 0 || n > 40 || !asked) {
                return OUTSIDE;
            }
            if (linens.isEmpty()) {
                return STATE;
            }
            int[] acts = taken(sheet, lane, i, n);
            for (int act : acts) {
                if (act < 0 || act > 40 || act < 40 && act % 10 >= linens.size()) {
                    return OUTSIDE;
                }
            }
            return weepingBy(acts, what);
        }, false);
    }

    private int weepingBy(int[] acts, int what) {
        int[] left = sorrow.clone();
        int[] damps = linens.stream().mapToInt(c -> c.damp).toArray();
        int all = linens.size();
        int evenings = 0;
        int wept = 0;
        int lasting = bits(all, l -> true);
        for (int p = 0; p < acts.length; p++) {
            int w = acts[p] / 10;
            int l = acts[p] % 10;
            if (w == 4 ? evenings == heat.length : left[w] == 0) {
                return what == 1 ? p : -100 - p;
            }
            if (w == 4) {
                for (int k = 0; k < all; k++) {
                    damps[k] = Math.max(0, damps[k] - linens.get(k).drying(heat[evenings]));
                }
                evenings++;
                lasting &= bits(all, k -> damps[k] > 0);
            } else {
                left[w]--;
                wept++;
                damps[l] = linens.get(l).office == w ? Math.min(9, damps[l] + 3) : 0;
            }
        }
        switch (what) {
            case 0:
                return bits(all, k -> damps[k] > 0);
            case 1:
                return NONE;
            case 2:
                return lasting;
            case 3:
                return wept;
            default:
                return what >= 20 ? left[what - 20] : what - 10 < all ? damps[what - 10] : NONE;
        }
    }

    // ---- 3 to the end: by trying every number of acts on every day

    private int fewest(Cambric c, int day, int now) {
        if (day == heat.length) {
            return 0;
        }
        int best = 1000;
        for (int acts = 0; acts <= 4; acts++) {
            int wet = acts == 0 ? now : Math.min(9, now + 3 * acts);
            int behind = wet - c.drying(heat[day]);
            if (behind > 0) {
                best = Math.min(best, acts + fewest(c, day + 1, behind));
            }
        }
        return best;
    }

    int tears(int l) {
        if (noLinen(l)) {
            return UNKNOWN;
        }
        int best = fewest(linens.get(l), 0, linens.get(l).damp);
        return best >= 1000 ? NONE : best;
    }

    int keep() {
        if (linens.isEmpty()) {
            return STATE;
        }
        int[] needs = new int[linens.size()];
        for (int l = 0; l < needs.length; l++) {
            needs[l] = tears(l);
        }
        return keptBy(0, sorrow, needs);
    }

    // Takes linen l or leaves it, and compares all that comes of both.
    private int keptBy(int l, int[] left, int[] needs) {
        if (l == needs.length) {
            return 0;
        }
        int without = keptBy(l + 1, left, needs);
        int w = linens.get(l).office;
        if (needs[l] == NONE || needs[l] > left[w]) {
            return without;
        }
        int[] less = left.clone();
        less[w] -= needs[l];
        int with = keptBy(l + 1, less, needs) | 1 << l;
        int more = Integer.bitCount(with) - Integer.bitCount(without);
        return more > 0 || more == 0 && with < without ? with : without;
    }

    int appoint(int l) {
        if (noLinen(l)) {
            return UNKNOWN;
        }
        int was = linens.get(l).office;
        int[] counts = new int[4];
        for (int w = 0; w < 4; w++) {
            linens.get(l).office = w;
            counts[w] = Integer.bitCount(keep());
        }
        linens.get(l).office = was;
        int best = 0;
        for (int w = 3; w >= 0; w--) {
            best = counts[w] >= counts[best] ? w : best;
        }
        return best;
    }

    int span(int l, int d) {
        if (noLinen(l) || noDay(d)) {
            return UNKNOWN;
        }
        for (int v = 9; v >= 0; v--) {
            int[] other = heat.clone();
            other[d] = v;
            if (dampBehind(linens.get(l), other, other.length) > 0) {
                return v;
            }
        }
        return NONE;
    }

    // ---- 4 how damp they were

    int reading(int l, int t, int v) {
        if (noLinen(l)) {
            return UNKNOWN;
        }
        if (t < 0 || t > heat.length || v < 0 || v > 9) {
            return OUTSIDE;
        }
        if (readings.size() == 8) {
            return FULL;
        }
        readings.add(new int[] {l, t, v});
        return readings.size() - 1;
    }

    int back(int k) {
        if (k < 0 || k > readings.size()) {
            return OUTSIDE;
        }
        for (int p = 0; p < k; p++) {
            readings.remove(readings.size() - 1);
        }
        return readings.size();
    }

    private boolean areSo(List<Cambric> with, int[] heats) {
        return readings.stream().allMatch(r -> dampBehind(with.get(r[0]), heats, r[1]) == r[2]);
    }

    private List<Cambric> withOther(int l, Cambric other) {
        List<Cambric> with = new ArrayList<>(linens);
        with.set(l, other);
        return with;
    }

    int damps(int l) {
        if (noLinen(l)) {
            return UNKNOWN;
        }
        char letter = "cls".charAt(kindOf(linens.get(l)));
        return bits(10, v -> areSo(withOther(l, linenOf(letter, linens.get(l).office, v)), heat));
    }

    int kinds(int l) {
        if (noLinen(l)) {
            return UNKNOWN;
        }
        Cambric c = linens.get(l);
        return bits(3, v -> areSo(withOther(l, linenOf("cls".charAt(v), c.office, c.damp)), heat));
    }

    int heats(int d) {
        if (noDay(d)) {
            return UNKNOWN;
        }
        return bits(10, v -> {
            int[] other = heat.clone();
            other[d] = v;
            return areSo(linens, other);
        });
    }

    private int ways(int l, int[] heats, int day) {
        if (day == heats.length) {
            return dampBehind(linens.get(l), heats, day) > 0 ? 1 : 0;
        }
        int[] cool = heats.clone();
        cool[day] = 0;
        return ways(l, heats, day + 1) + ways(l, cool, day + 1);
    }

    long odds(int l, int which) {
        if (noLinen(l) || which < 0 || which > 1) {
            return Long.MIN_VALUE;
        }
        int upper = ways(l, heat, 0);
        int lower = 1 << heat.length;
        int common = java.math.BigInteger.valueOf(upper).gcd(java.math.BigInteger.valueOf(lower)).intValue();
        return which == 0 ? upper / common : lower / common;
    }

    // ---- 5 parts

    int tell(int l) {
        return noLinen(l) ? UNKNOWN : linens.get(l).telling(this);
    }

    int knot(int l) {
        return noLinen(l) ? UNKNOWN : linens.get(l).knotOf(this, l);
    }

    int as(int l, int kind) {
        return (int) faulting(() -> {
            if (noLinen(l)) {
                return UNKNOWN;
            }
            if (kind < 0 || kind > 2) {
                return OUTSIDE;
            }
            Object linen = linens.get(l);
            Cambric taken = kind == 0 ? (Cambric) linen : kind == 1 ? (Lace) linen : (Silk) linen;
            return taken == linen ? 1 : 0;
        }, false);
    }

    int trace() {
        return trace;
    }

    int fault() {
        return fault;
    }

    int many(int what) {
        switch (what) {
            case 0:
                return linens.size();
            case 1:
                return heat.length;
            case 2:
                return java.util.Arrays.stream(sorrow).sum();
            case 3:
                return readings.size();
            default:
                return OUTSIDE;
        }
    }
}
