import java.util.Arrays;
import java.util.HashSet;
import java.util.Random;
import java.util.Set;

/**
 * Promise 13 without the TEARS of promise 12: plays every row of acts, wrong weepers' too, and looks at what lasts.
 */
public final class SearchTest {
    private static final Check CHECK = new Check("SearchTest");
    private static final int ROUNDS = 400;

    private final int days;
    private final int linens;
    private final int[] sorrows = new int[4];
    private final int[] damps;
    private final int[] offices;
    private final int[][] drying;
    private final Set<String> seen = new HashSet<>();
    private int best = 0;

    // Asks for all at once, as an object is used for 512 calls at most.
    private SearchTest(LinenLaw x) {
        linens = x.many(0);
        days = x.many(1);
        damps = new int[linens];
        offices = new int[linens];
        drying = new int[linens][days];
        for (int w = 0; w < 4; w++) {
            sorrows[w] = Desk.weep(x, 20 + w);
        }
        for (int l = 0; l < linens; l++) {
            offices[l] = x.ofLinen(l, 1);
            damps[l] = x.ofLinen(l, 2);
            for (int d = 0; d < days; d++) {
                drying[l][d] = x.dries(l, d);
            }
        }
    }

    public static void main(String[] args) {
        Random random = new Random(13);
        for (int round = 0; round < ROUNDS; round++) {
            String text = text(random);
            LinenLaw x = Desk.of(text);
            CHECK.due("13: keep of " + text, x.keep(), new SearchTest(x).most());
        }
        CHECK.end();
    }

    private static String text(Random random) {
        StringBuilder text = new StringBuilder("k");
        int[] sorrow = new int[4];
        for (int k = random.nextInt(6); k > 0; k--) {
            sorrow[random.nextInt(2)]++;
        }
        for (int w = 0; w < 4; w++) {
            text.append(sorrow[w]);
        }
        text.append(',');
        for (int d = 1 + random.nextInt(3); d > 0; d--) {
            text.append(random.nextInt(5));
        }
        for (int l = 1 + random.nextInt(3); l > 0; l--) {
            text.append(';').append("ccls".charAt(random.nextInt(4))).append(random.nextInt(2)).append(random.nextInt(7));
        }
        return text.toString();
    }

    private int most() {
        go(0, sorrows, damps, (1 << linens) - 1);
        return best;
    }

    private void go(int evenings, int[] left, int[] now, int lasting) {
        if (!seen.add(evenings + Arrays.toString(left) + Arrays.toString(now) + lasting)) {
            return;
        }
        if (evenings == days) {
            int more = Integer.bitCount(lasting) - Integer.bitCount(best);
            best = more > 0 || more == 0 && lasting < best ? lasting : best;
            return;
        }
        int[] dried = now.clone();
        int still = lasting;
        for (int l = 0; l < linens; l++) {
            dried[l] = Math.max(0, now[l] - drying[l][evenings]);
            still &= dried[l] > 0 ? -1 : ~(1 << l);
        }
        go(evenings + 1, left, dried, still);
        for (int w = 0; w < 4; w++) {
            for (int l = 0; l < linens && left[w] > 0; l++) {
                int[] less = left.clone();
                int[] wept = now.clone();
                less[w]--;
                wept[l] = offices[l] == w ? Math.min(9, now[l] + 3) : 0;
                go(evenings, less, wept, lasting);
            }
        }
    }
}
