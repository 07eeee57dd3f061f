import java.util.Random;

/** Promises 1 to 32: long runs of calls at random, of which many are refused, against the model's answers. */
public final class WildTest {
    private static final int RUNS = 4000, CALLS = 512;
    private static final int[] FAR = {
        Integer.MIN_VALUE, Integer.MIN_VALUE + 1, -100, -60, -2, -1, 10, 41, 60, 61, 1000,
        Integer.MAX_VALUE - 1, Integer.MAX_VALUE,
    };
    private static final Check CHECK = new Check("WildTest");

    private final Random random;
    private final LinenLaw x = new LinenLaw();
    private final Model m = new Model();
    private final int run;
    private int left = CALLS;

    private WildTest(int run) {
        this.run = run;
        random = new Random(run);
    }

    public static void main(String[] args) {
        for (int run = 0; run < RUNS; run++) {
            new WildTest(run).play();
        }
        CHECK.end();
    }

    private void play() {
        if (random.nextInt(10) > 0) {
            layText();
        }
        while (left > 50) {
            int dice = random.nextInt(100);
            if (dice == 0) {
                layText();
            } else if (dice < 4) {
                layActs();
            } else {
                one(random.nextInt(31));
            }
        }
    }

    /** A number below n mostly; else one a little off, or far off. */
    private int some(int n) {
        int dice = random.nextInt(40);
        return dice == 0 ? FAR[random.nextInt(FAR.length)] : dice == 1 ? -1 : dice == 2 ? n : random.nextInt(n);
    }

    private void due(String call, long got, long want) {
        left--;
        CHECK.due("run " + run + ", " + left + " left: " + call, got, want);
    }

    private String text() {
        StringBuilder text = new StringBuilder("k");
        int hot = 1 + random.nextInt(10);
        for (int w = 0; w < 4; w++) {
            text.append(random.nextInt(10));
        }
        text.append(',');
        for (int d = 1 + random.nextInt(6); d > 0; d--) {
            text.append(random.nextInt(hot));
        }
        for (int l = 1 + random.nextInt(5); l > 0; l--) {
            text.append(';').append("cls".charAt(random.nextInt(3))).append(random.nextInt(4)).append(random.nextInt(10));
        }
        return text.toString();
    }

    private String spoilt(String text) {
        int p = random.nextInt(text.length() + 1);
        switch (random.nextInt(4)) {
            case 0:
                return text.substring(0, p);
            case 1:
                return text.substring(0, p) + "kcls,;/0:9".charAt(random.nextInt(10)) + text.substring(p);
            case 2:
                return p == text.length() ? text : text.substring(0, p) + text.substring(p + 1);
            default:
                return p == text.length() ? text
                    : text.substring(0, p) + "kcls,;/0:9\0".charAt(random.nextInt(11)) + text.substring(p + 1);
        }
    }

    private void layText() {
        String text = random.nextInt(4) == 0 ? spoilt(text()) : text();
        int k = random.nextInt(4);
        int lane = random.nextInt(3);
        int ahead = random.nextInt(3);
        int n = text.length();
        due("sheet", x.sheet(k, lane, n + ahead), m.sheet(k, lane, n + ahead));
        for (int i = 0; i < n; i++) {
            int v = text.charAt(i);
            due("put", x.put(k, ahead + i, v), m.put(k, ahead + i, v));
        }
        due("realm by " + text, x.realm(k, lane, ahead, n), m.realm(k, lane, ahead, n));
    }

    private void layActs() {
        int k = random.nextInt(4);
        int lane = random.nextInt(3);
        int n = random.nextInt(16);
        due("sheet", x.sheet(k, lane, n), m.sheet(k, lane, n));
        for (int i = 0; i < n; i++) {
            int linen = random.nextInt(Math.max(1, m.many(0)));
            int right = Math.max(0, m.ofLinen(linen, 1));
            int weeper = random.nextInt(5) > 0 ? right : random.nextInt(4);
            int act = random.nextInt(3) == 0 ? 40 : 10 * weeper + linen;
            act = random.nextInt(100) == 0 ? some(41) : act;
            due("put", x.put(k, i, act), m.put(k, i, act));
        }
        for (int what : new int[] {0, 1, 2, 3, 10, 11, 12, 13, 14, 20, 21, 22, 23}) {
            due("weeping of " + what, x.weeping(k, lane, 0, n, what), m.weeping(k, lane, 0, n, what));
        }
    }

    private void one(int which) {
        int a = some(5);
        int b = some(10);
        if (which < 10) {
            oneOfRealm(which, a, b);
        } else if (which < 20) {
            oneOfLaw(which, a, b);
        } else {
            oneOfSheets(which, a, some(4), some(5));
        }
    }

    private void oneOfRealm(int which, int a, int b) {
        int w = some(4);
        int d = some(6);
        switch (which) {
            case 0 -> due("ofLinen " + a, x.ofLinen(a, w), m.ofLinen(a, w));
            case 1 -> due("heat " + d, x.heat(d), m.heat(d));
            case 2 -> due("warm " + d + " " + b, x.warm(d, b), m.warm(d, b));
            case 3 -> due("grieve " + w + " " + b, x.grieve(w, b), m.grieve(w, b));
            case 4 -> due("give " + a + " " + w, x.give(a, w), m.give(a, w));
            case 5 -> due("dries " + a + " " + d, x.dries(a, d), m.dries(a, d));
            case 6 -> due("damp " + a + " " + d, x.damp(a, d), m.damp(a, d));
            case 7 -> due("laws " + d, x.laws(d), m.laws(d));
            case 8 -> due("many " + w, x.many(w), m.many(w));
            default -> due("fault", x.fault(), m.fault());
        }
    }

    private void oneOfLaw(int which, int a, int b) {
        int d = some(6);
        int t = some(7);
        int v = random.nextInt(4) > 0 ? Math.max(0, m.damp(a, t)) : b;
        int two = some(2);
        switch (which) {
            case 10 -> due("tears " + a, x.tears(a), m.tears(a));
            case 11 -> due("keep", x.keep(), m.keep());
            case 12 -> due("appoint " + a, x.appoint(a), m.appoint(a));
            case 13 -> due("span " + a + " " + d, x.span(a, d), m.span(a, d));
            case 14 -> due("reading " + a + " " + t + " " + v, x.reading(a, t, v), m.reading(a, t, v));
            case 15 -> due("back " + two, x.back(two), m.back(two));
            case 16 -> due("damps " + a, x.damps(a), m.damps(a));
            case 17 -> due("kinds " + a, x.kinds(a), m.kinds(a));
            case 18 -> due("heats " + d, x.heats(d), m.heats(d));
            default -> due("odds " + a + " " + two, x.odds(a, two), m.odds(a, two));
        }
    }

    private void oneOfSheets(int which, int a, int k, int i) {
        int lane = some(3);
        int other = some(4);
        int j = some(5);
        int n = some(6);
        int v = random.nextInt();
        int what = some(24);
        switch (which) {
            case 20 -> due("sheet " + k, x.sheet(k, lane, n), m.sheet(k, lane, n));
            case 21 -> due("lose " + k, x.lose(k), m.lose(k));
            case 22 -> due("put " + k + " " + i, x.put(k, i, v), m.put(k, i, v));
            case 23 -> due("cell " + k + " " + i, x.cell(k, i, lane), m.cell(k, i, lane));
            case 24 -> due("copy " + k + " " + i + " " + other + " " + j + " " + n,
                x.copy(k, i, other, j, n), m.copy(k, i, other, j, n));
            case 25 -> due("tell " + a, x.tell(a), m.tell(a));
            case 26 -> due("knot " + a, x.knot(a), m.knot(a));
            case 27 -> due("as " + a + " " + lane, x.as(a, lane), m.as(a, lane));
            case 28 -> due("trace", x.trace(), m.trace());
            case 29 -> due("realm " + k + " " + lane + " " + i + " " + n,
                x.realm(k, lane, i, n), m.realm(k, lane, i, n));
            default -> due("weeping " + k + " " + lane + " " + i + " " + n + " " + what,
                x.weeping(k, lane, i, n, what), m.weeping(k, lane, i, n, what));
        }
    }
}
