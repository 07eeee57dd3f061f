/** Lays texts and rows on SHEETS, for tests. */
final class Desk {
    static final int BYTES = 0, SHORTS = 1, INTS = 2;

    private Desk() {
    }

    static int[] codes(String text) {
        return text.chars().toArray();
    }

    static void lay(LinenLaw x, int sheet, int lane, int... cells) {
        x.sheet(sheet, lane, cells.length);
        for (int i = 0; i < cells.length; i++) {
            x.put(sheet, i, cells[i]);
        }
    }

    /** What realm answers to a text, by way of sheet 0. */
    static int realm(LinenLaw x, String text) {
        lay(x, 0, BYTES, codes(text));
        return x.realm(0, BYTES, 0, text.length());
    }

    /** A new object with a realm, and nothing on its sheets. */
    static LinenLaw of(String text) {
        LinenLaw x = new LinenLaw();
        int linens = realm(x, text);
        if (linens < 1) {
            throw new IllegalArgumentException(text + " is no realm: " + linens);
        }
        x.lose(0);
        return x;
    }

    /** What weeping answers to a row of acts, by way of sheet 1. */
    static int weep(LinenLaw x, int what, int... acts) {
        lay(x, 1, INTS, acts);
        return x.weeping(1, INTS, 0, acts.length, what);
    }
}
