/** Part 1 of the document and promises 1 to 8: the new object and the realm. */
public final class RealmTest {
    private static final Doc DOC = new Doc("RealmTest", 1);
    private static final String ONE = "k2103,213;c06;l14;s05;c38";
    private static final String SHORTEST = "k0000,0;c00", LONGEST = "k9876,543210;c00;l11;s22;c33;l39";
    private static final int UNKNOWN = LinenLaw.UNKNOWN, OUTSIDE = LinenLaw.OUTSIDE, STATE = LinenLaw.STATE;
    private static final int NO_FAULT = Twins.NO_FAULT, KEPT = Twins.KEPT, CELLS = Twins.CELLS;
    private static final int FAR = Integer.MAX_VALUE;

    public static void main(String[] args) {
        weepers();
        textsHead();
        textsDays();
        textsLinens();
        textsFirstFault();
        textsCodes();
        kinds();
        allAnew();
        drying();
        newObject();
        realm();
        realmRefuses();
        realmsIndex();
        ofLinen();
        heatAndWarm();
        grieve();
        give();
        dries();
        DOC.end();
    }

    private static void due(String call, long got, long want) {
        DOC.due(call, got, want);
    }

    private static void dueByText(String text, int want) {
        due(text, Desk.realm(new LinenLaw(), text), want);
    }

    private static void weepers() {
        DOC.terms("There are WEEPERS 0 .. 3.");
        Twins.range(DOC, "grieve", 0, 3, UNKNOWN, KEPT, (x, w) -> x.grieve(w, 1));
        Twins.range(DOC, "give", 0, 3, UNKNOWN, KEPT, (x, w) -> x.give(0, w));
    }

    /** Of a text, the place takes the codes of a row and the two beyond its ends not. */
    private static void takes(String text, int place, String codes, String notTaken) {
        for (char code : codes.toCharArray()) {
            String other = text.substring(0, place) + code + text.substring(place + 1);
            due("is taken: " + other, Desk.realm(new LinenLaw(), other) > 0 ? 1 : 0, 1);
        }
        for (char code : notTaken.toCharArray()) {
            dueByText(text.substring(0, place) + code + text.substring(place + 1), -100 - place);
        }
    }

    private static void textsHead() {
        DOC.terms("A REALM by a TEXT: k,");
        takes(ONE, 0, "k", "jlK0;cs");
        DOC.terms("four digits 0 .. 9 (SORROW of each), a comma,");
        for (int w = 0; w < 4; w++) {
            takes(ONE, 1 + w, "09", "/:,");
            due("sorrow of " + w, Desk.weep(Desk.of("k0189,0;c00"), 20 + w), new int[] {0, 1, 8, 9}[w]);
        }
        takes(ONE, 5, ",", "-+;9");
        dueByText("k210,2;c06", -104);
        dueByText("k21033,2;c06", -105);
    }

    private static void textsDays() {
        DOC.terms("1 to 6 digits 0 .. 9 (HEAT of DAYS, numbered from 0 on),");
        dueByText("k2103,;c06", -106);
        for (int days = 1; days <= 6; days++) {
            LinenLaw x = Desk.of("k0000," + "908172".substring(0, days) + ";c09");
            due("so many days", x.many(1), days);
            due("the first", x.heat(0), 9);
            due("the last", x.heat(days - 1), "908172".charAt(days - 1) - '0');
            due("one more", x.heat(days), UNKNOWN);
        }
        dueByText("k2103,1234567;c06", -112);
        takes(ONE, 6, "09", "/:;,");
        takes(ONE, 7, "09", "/:,");
        takes(ONE, 8, "09", "/:,");
    }

    private static void textsLinens() {
        DOC.terms("then 1 to 5 LINENS, numbered from 0 on, each: ; and a letter,");
        dueByText("k2103,2", -107);
        StringBuilder text = new StringBuilder("k2103,2");
        for (int linens = 1; linens <= 5; linens++) {
            text.append(";l1").append(linens);
            LinenLaw x = new LinenLaw();
            due("so many linens", Desk.realm(x, text.toString()), linens);
            due("the first", x.ofLinen(0, 2), 1);
            due("the last", x.ofLinen(linens - 1, 2), linens);
            due("one more", x.ofLinen(linens, 2), UNKNOWN);
        }
        dueByText(text + ";l16", -127);
        takes(SHORTEST, 7, ";", ":<,c");
        takes(ONE, 13, ";", ":<,c");
        takes(ONE, 10, "cls", "bdkmrtCLS0;");
        takes(ONE, 22, "cls", "bdkmrtCLS0;");
        DOC.terms("a digit 0 .. 3 (OFFICE: its WEEPER),");
        takes(ONE, 11, "0123", "/456789:c");
        takes(ONE, 23, "0123", "/456789:c");
        for (int w = 0; w < 4; w++) {
            due("office", Desk.of("k0000,0;c09;s" + w + "0").ofLinen(1, 1), w);
        }
        DOC.terms("a digit 0 .. 9 (DAMP).");
        takes(ONE, 12, "0123456789", "/:;");
        takes(ONE, 24, "0123456789", "/:;");
        for (int v = 0; v < 10; v++) {
            due("damp", Desk.of("k0000,0;c09;s0" + v).ofLinen(1, 2), v);
        }
    }

    private static void textsFirstFault() {
        DOC.terms("FIRST FAULT: the place (from 0 on) of the first code with which no TEXT goes on");
        Object[][] rows = {
            {"K2103,2;c06", 0}, {"xxxxxxxxxxx", 0}, {"ka1b3,2;c06", 1}, {"k21x3,2;cx6", 3}, {"k2103;2;c06", 5},
            {"k2103,a;c06", 6}, {"k2103,2,c06", 7}, {"k2103,2a;c06", 7}, {"k2103,2;;06", 8}, {"k2103,2;cc6", 9},
            {"k2103,2;c0;", 10}, {"k2103,2;c066", 11}, {"k2103,2;c06c06", 11}, {"k2103,2;c06;x06", 12},
            {"k2103,2;c06;l0x;x", 14}, {"k2103,2k2103,2;c06", 7},
        };
        for (Object[] row : rows) {
            dueByText((String) row[0], -100 - (Integer) row[1]);
        }
        LinenLaw x = new LinenLaw();
        Desk.lay(x, 0, Desk.BYTES, Desk.codes("k2103," + "k2x03,"));
        due("from the text's own first code on", x.realm(0, 0, 6, 6), -102);
        DOC.terms("(the digit of a seventh DAY, the ; of a sixth LINEN)");
        dueByText("k2103,1234567;c06", -112);
        dueByText("k2103,1234567", -112);
        dueByText(LONGEST + ";c06", -132);
        dueByText(LONGEST + ";", -132);
        dueByText("k2103,2;c06;c06;c06;c06;c06;c06", -127);
        dueByText(LONGEST, 5);
        DOC.terms("how many codes there are, if it just ends too soon.");
        for (int n = 0; n <= LONGEST.length(); n++) {
            int linens = n > 12 && n % 4 == 0 ? (n - 12) / 4 : 0;
            dueByText(LONGEST.substring(0, n), linens > 0 ? linens : -100 - n);
        }
    }

    private static void textsCodes() {
        DOC.terms("(Codes: k 107, c 99, l 108, s 115, comma 44, ; 59, digits 48 .. 57.)");
        for (int place = 0; place <= LONGEST.length(); place++) {
            LinenLaw x = new LinenLaw();
            Desk.lay(x, 0, Desk.INTS, Desk.codes(LONGEST + "x"));
            int n = Math.max(place + 1, LONGEST.length());
            for (int code = -2; code < 130; code++) {
                x.put(0, place, code);
                due("code " + code + " at " + place, x.realm(0, Desk.INTS, 0, n), byCode(place, code));
            }
            for (int code : new int[] {107 + 256, 48 - 256, 44 + 65536, 59 - 65536, 304, FAR, Integer.MIN_VALUE}) {
                x.put(0, place, code);
                due("code " + code + " at " + place, x.realm(0, Desk.INTS, 0, n), -100 - place);
            }
        }
    }

    /** What is due if the longest text has a code at a place; behind its end, too. */
    private static int byCode(int place, int code) {
        int linenPlace = (place - 12) % 4;
        boolean digit = code >= 48 && code <= 57;
        boolean goesOn;
        if (place < 12) {
            goesOn = place == 0 ? code == 107 : place == 5 ? code == 44 : digit;
        } else if (linenPlace == 1) {
            goesOn = code == 99 || code == 108 || code == 115;
        } else {
            goesOn = linenPlace == 0 ? code == 59 : digit && (linenPlace == 3 || code <= 51);
        }
        if (place > 6 && place < 12 && code == 59) {
            // The linens may begin here; then it is what follows that is no letter.
            return -101 - place;
        }
        return goesOn && place < 32 ? 5 : -100 - place;
    }

    private static void kinds() {
        DOC.terms("Kinds: 0 CAMBRIC (c); 1 LACE (l), a CAMBRIC; 2 SILK (s), a LACE.");
        LinenLaw x = Desk.of("k0000,0;c00;l00;s00");
        for (int l = 0; l < 3; l++) {
            due("kind of " + l, x.ofLinen(l, 0), l);
            for (int kind = 0; kind < 3; kind++) {
                due(l + " taken as " + kind, x.as(l, kind), kind <= l ? 1 : -12);
            }
        }
    }

    private static void allAnew() {
        DOC.terms("A TEXT that is taken makes all anew,");
        LinenLaw x = Desk.of(ONE);
        x.warm(0, 9);
        x.grieve(0, 9);
        x.give(0, 3);
        due("one linen", Desk.realm(x, "k1000,21;s39"), 1);
        due("days", x.many(1), 2);
        due("sorrows", x.many(2), 1);
        due("kind, office, damp", x.ofLinen(0, 0) * 100 + x.ofLinen(0, 1) * 10 + x.ofLinen(0, 2), 239);
        due("no linen 1", x.ofLinen(1, 0), UNKNOWN);
        due("no day 2", x.heat(2), UNKNOWN);
        due("heat", x.heat(0), 2);
        LinenLaw fewer = Desk.of("k9999,000000;c09;c09;c09;c09;c09");
        Desk.realm(fewer, "k9999,0;c09;c09");
        due("no more linens than there are, laws", fewer.laws(1), 3);
        due("no more linens than there are, weeping", Desk.weep(fewer, 0, 40), 3);
        due("no more linens than there are, lasting", Desk.weep(fewer, 2, 40), 3);
        due("no more linens than there are, keep", fewer.keep(), 3);
        due("no more days than there are", fewer.damp(0, 2), OUTSIDE);
        Twins.leaves(DOC, "a text that is not taken makes nothing anew", -124, NO_FAULT, y -> y.realm(0, 0, 0, 24));
        allButSheetsAndTrace();
    }

    private static void allButSheetsAndTrace() {
        DOC.terms("but for SHEETS and TRACE:");
        LinenLaw x = Desk.of(ONE);
        x.tell(0);
        Desk.lay(x, 2, Desk.INTS, 70000);
        Desk.lay(x, 0, Desk.BYTES, Desk.codes("k1000,21;s39"));
        due("realm", x.realm(0, 0, 0, 12), 1);
        due("another sheet", x.cell(2, 0, Desk.INTS), 70000);
        for (int i = 0; i < 12; i++) {
            due("the sheet that it came from", x.cell(0, i, Desk.BYTES), "k1000,21;s39".charAt(i));
        }
        due("a sheet with nothing", x.lose(3), 0);
        due("trace", x.trace(), 1);
        due("the same text again", x.realm(0, 0, 0, 12), 1);
        DOC.terms("no READINGS.");
        LinenLaw read = Twins.made();
        due("two readings", read.many(3), 2);
        due("the same text again", read.realm(0, 0, 0, CELLS), 4);
        due("none", read.many(3), 0);
        due("damps by none", read.damps(1), 1023);
        due("the first one again", read.reading(0, 0, 0), 0);
    }

    private static void drying() {
        DOC.terms("In the EVENING of a DAY a LINEN DRIES: a CAMBRIC one by HEAT; a LACE one by 1 more; a SILK one by twice what a LACE one does:");
        LinenLaw x = Desk.of("k0000,0;c09;l09;s09");
        for (int hot = 0; hot < 10; hot++) {
            x.warm(0, hot);
            int[] by = {hot, hot + 1, 2 * hot + 2};
            for (int l = 0; l < 3; l++) {
                due(l + " by heat " + hot, x.dries(l, 0), by[l]);
                due("so damp is " + l + " behind heat " + hot, x.damp(l, 1), Math.max(0, 9 - by[l]));
            }
        }
        DOC.terms("its DAMP is so much less (0 at least).");
        LinenLaw least = Desk.of("k0000,45;c06;c05;c04;c03;c09");
        int[] behindOne = {2, 1, 0, 0, 5};
        for (int l = 0; l < 5; l++) {
            due(l + " behind one evening", least.damp(l, 1), behindOne[l]);
            due(l + " behind one evening of weeping", Desk.weep(least, 10 + l, 40), behindOne[l]);
            due(l + " behind two", least.damp(l, 2), 0);
        }
        LinenLaw wet = Desk.of("k2000,40;c00");
        due("three more are more than 0, not than less", Desk.weep(wet, 10, 40, 0, 40), 3);
        DOC.terms("A LINEN is LAW while its DAMP is above 0.");
        for (int v = 0; v < 10; v++) {
            LinenLaw of = Desk.of("k0000,1;c0" + v);
            due("of damp " + v, of.laws(0), v > 0 ? 1 : 0);
            due("of damp " + v + " less 1", of.laws(1), v > 1 ? 1 : 0);
            due("of damp " + v + ", weeping", Desk.weep(of, 0), v > 0 ? 1 : 0);
            due("of damp " + v + " less 1, weeping", Desk.weep(of, 0, 40), v > 1 ? 1 : 0);
        }
    }

    private static void newObject() {
        DOC.promise(1, "No REALM (no DAYS, LINENS; all SORROW 0),");
        LinenLaw x = new LinenLaw();
        for (int what = 0; what < 4; what++) {
            due("many " + what, x.many(what), 0);
        }
        due("laws, keep", x.laws(0) + x.keep(), 2 * STATE);
        long[] unknown = {
            x.ofLinen(0, 0), x.heat(0), x.warm(0, 10), x.give(0, 0), x.dries(0, 0), x.damp(0, 0), x.tears(0),
            x.appoint(0), x.span(0, 0), x.reading(0, 0, 0), x.damps(0), x.kinds(0), x.heats(0), x.tell(0), x.knot(0),
            x.as(0, 0),
        };
        for (int k = 0; k < unknown.length; k++) {
            due("no linen, no day, call " + k, unknown[k], UNKNOWN);
        }
        due("odds", x.odds(0, 0), LinenLaw.LOST);
        due("back 0", x.back(0), 0);
        due("back 1", x.back(1), OUTSIDE);
        due("fault", new LinenLaw().fault(), 0);
        due("trace", x.trace(), 0);
        DOC.promise(1, "SHEETS have nothing.");
        for (int k = 0; k < 4; k++) {
            due("put " + k, new LinenLaw().put(k, 0, 0), -11);
            due("lose " + k, new LinenLaw().lose(k), 0);
        }
    }

    private static void realm() {
        DOC.promise(2, "A REALM by a TEXT of n cells of a SHEET from i on, taken as a row of a LANE: how many LINENS;");
        for (int k = 0; k < 4; k++) {
            for (int lane = 0; lane < 3; lane++) {
                LinenLaw x = new LinenLaw();
                Desk.lay(x, k, lane, Desk.codes("zz" + ONE + "z"));
                due("from inside a row", x.realm(k, lane, 2, ONE.length()), 4);
                due("its days", x.many(1), 3);
                due("its sorrows", x.many(2), 6);
                due("n ends a text", x.realm(k, lane, 2, 13), 1);
            }
        }
        dueByText(SHORTEST, 1);
        LinenLaw x = new LinenLaw();
        due("the longest", Desk.realm(x, "k9999,999999;s39;s39;s39;s39;s39"), 5);
        due("its days", x.many(1), 6);
        due("its sorrows", x.many(2), 36);
        LinenLaw atEnd = new LinenLaw();
        Desk.lay(atEnd, 0, Desk.SHORTS, Desk.codes(" ".repeat(28) + LONGEST));
        due("the last 32 cells of 60", atEnd.realm(0, Desk.SHORTS, 28, 32), 5);
        DOC.promise(2, "-100 less the FIRST FAULT.");
        Twins.leaves(DOC, "no text", -100, NO_FAULT, y -> y.realm(0, 0, 1, 24));
        Twins.leaves(DOC, "no code", -100, NO_FAULT, y -> y.realm(0, 0, 0, 0));
        Twins.leaves(DOC, "n ends it too soon", -124, NO_FAULT, y -> y.realm(0, 0, 0, 24));
        dueByText(LONGEST + "c", -132);
    }

    private static void realmRefuses() {
        DOC.promise(2, "UNKNOWN;");
        Twins.range(DOC, "sheet", 0, 3, UNKNOWN, NO_FAULT, (x, k) -> x.realm(k, 0, 0, CELLS));
        Twins.leaves(DOC, "ahead of outside, size", UNKNOWN, NO_FAULT, x -> x.realm(4, 3, -1, -1));
        DOC.promise(2, "OUTSIDE: lane;");
        Twins.range(DOC, "lane", 0, 2, OUTSIDE, NO_FAULT, (x, lane) -> x.realm(0, lane, 0, CELLS));
        Twins.leaves(DOC, "ahead of null, size", OUTSIDE, NO_FAULT, x -> x.realm(3, 3, -1, -1));
        Twins.leaves(DOC, "ahead of cast, size", OUTSIDE, NO_FAULT, x -> x.realm(0, -1, -1, -1));
        DOC.promise(2, "CAST (nothing is no CAST);");
        for (int k = 0; k < 4; k++) {
            for (int lane = 0; lane < 3; lane++) {
                int fault = k == 3 ? Twins.NULL : k != lane ? Twins.CAST : Twins.SIZE;
                int sheet = k;
                int as = lane;
                Twins.leaves(DOC, "sheet " + k + " as " + lane, -10 - fault, fault, x -> x.realm(sheet, as, -1, -1));
            }
        }
        Twins.leaves(DOC, "ahead of index", -12, Twins.CAST, x -> x.realm(0, 1, 99, 1));
        Twins.leaves(DOC, "of a good text", -12, Twins.CAST, x -> x.realm(0, 2, 0, CELLS));
        DOC.promise(2, "NULL;");
        Twins.leaves(DOC, "alone", -11, Twins.NULL, x -> x.realm(3, 0, 0, 0));
        Twins.leaves(DOC, "ahead of size", -11, Twins.NULL, x -> x.realm(3, 2, 0, -1));
        Twins.leaves(DOC, "ahead of index", -11, Twins.NULL, x -> x.realm(3, 1, -1, 1));
        DOC.promise(2, "SIZE: n below 0;");
        Twins.leaves(DOC, "-1", -14, Twins.SIZE, x -> x.realm(0, 0, 0, -1));
        Twins.leaves(DOC, "far below", -14, Twins.SIZE, x -> x.realm(0, 0, 0, Integer.MIN_VALUE));
        Twins.leaves(DOC, "ahead of index", -14, Twins.SIZE, x -> x.realm(0, 0, -1, -1));
        Twins.leaves(DOC, "ahead of index", -14, Twins.SIZE, x -> x.realm(0, 0, FAR, -1));
        due("0 is none", Twins.made().realm(0, 0, 0, 0), -100);
    }

    private static void realmsIndex() {
        DOC.promise(2, "INDEX;");
        int[][] beyond = {
            {-1, 0}, {-1, 1}, {-1, CELLS}, {CELLS + 1, 0}, {CELLS, 1}, {CELLS - 1, 2}, {0, CELLS + 1}, {1, CELLS},
            {0, FAR}, {1, FAR}, {FAR, 1}, {FAR, FAR}, {Integer.MIN_VALUE, 0}, {Integer.MIN_VALUE, FAR},
        };
        for (int[] b : beyond) {
            Twins.leaves(DOC, b[1] + " from " + b[0] + " on", -13, Twins.INDEX, x -> x.realm(0, 0, b[0], b[1]));
        }
        due("the first one", Twins.made().realm(0, 0, 0, 1), -101);
        due("the last one", Twins.made().realm(0, 0, CELLS - 1, 1), -100);
        due("none behind the last", Twins.made().realm(0, 0, CELLS, 0), -100);
        LinenLaw x = new LinenLaw();
        x.sheet(0, 0, 0);
        due("none of none", x.realm(0, 0, 0, 0), -100);
        due("one of none", x.realm(0, 0, 0, 1), -13);
        due("none of none, from 1 on", x.realm(0, 0, 1, 0), -13);
        DOC.promise(2, "-100 less it.");
        due("behind index", Twins.made().realm(0, 0, 1, CELLS), -13);
        due("of cells that there are", Twins.made().realm(0, 0, 1, CELLS - 1), -100);
    }

    private static void ofLinen() {
        DOC.promise(3, "Of a LINEN: 0 kind, 1 OFFICE, 2 DAMP.");
        LinenLaw x = Desk.of(ONE);
        int[][] rows = {{0, 0, 6}, {1, 1, 4}, {2, 0, 5}, {0, 3, 8}};
        for (int l = 0; l < rows.length; l++) {
            for (int what = 0; what < 3; what++) {
                due("of " + l + " " + what, x.ofLinen(l, what), rows[l][what]);
            }
        }
        DOC.promise(3, "UNKNOWN;");
        Twins.range(DOC, "linen", 0, 3, UNKNOWN, KEPT, (y, l) -> y.ofLinen(l, 0));
        due("ahead of outside", x.ofLinen(4, 3), UNKNOWN);
        DOC.promise(3, "OUTSIDE.");
        Twins.range(DOC, "what", 0, 2, (y, what) -> y.ofLinen(0, what));
    }

    private static void heatAndWarm() {
        DOC.promise(4, "HEAT of a DAY.");
        LinenLaw x = Desk.of("k0000,907;c00");
        due("of all days", x.heat(0) * 100 + x.heat(1) * 10 + x.heat(2), 907);
        DOC.promise(4, "UNKNOWN.");
        Twins.range(DOC, "day", 0, 2, UNKNOWN, KEPT, LinenLaw::heat);
        DOC.promise(5, "HEAT of a DAY becomes v (0 .. 9): what it was.");
        due("what it was", x.warm(1, 9), 0);
        due("becomes", x.heat(1), 9);
        due("to 0", x.warm(1, 0), 9);
        due("becomes", x.heat(1), 0);
        due("no other", x.heat(0) * 10 + x.heat(2), 97);
        due("the last", x.warm(2, 1), 7);
        due("becomes", x.heat(2), 1);
        DOC.promise(5, "UNKNOWN;");
        Twins.range(DOC, "day", 0, 2, UNKNOWN, KEPT, (y, d) -> y.warm(d, 9));
        due("ahead of outside", x.warm(3, 10), UNKNOWN);
        DOC.promise(5, "OUTSIDE.");
        Twins.range(DOC, "heat", 0, 9, (y, v) -> y.warm(2, v));
    }

    private static void grieve() {
        DOC.promise(6, "SORROW of a WEEPER becomes v (0 .. 9): what it was.");
        LinenLaw x = Desk.of(ONE);
        due("what it was", x.grieve(3, 9), 3);
        due("becomes", x.grieve(3, 0), 9);
        due("together", x.many(2), 3);
        due("weeper 0", x.grieve(0, 9), 2);
        due("together", x.many(2), 10);
        due("no other", Desk.weep(x, 21), 1);
        DOC.promise(6, "UNKNOWN;");
        Twins.range(DOC, "weeper", 0, 3, UNKNOWN, KEPT, (y, w) -> y.grieve(w, 9));
        due("ahead of outside", x.grieve(4, 10), UNKNOWN);
        due("ahead of state", new LinenLaw().grieve(-1, 0), UNKNOWN);
        DOC.promise(6, "OUTSIDE;");
        Twins.range(DOC, "sorrow", 0, 9, (y, v) -> y.grieve(0, v));
        due("ahead of state", new LinenLaw().grieve(0, 10), OUTSIDE);
        due("ahead of state", new LinenLaw().grieve(0, -1), OUTSIDE);
        DOC.promise(6, "STATE: there is no REALM.");
        LinenLaw none = new LinenLaw();
        due("of each end", none.grieve(0, 0) + none.grieve(3, 9), 2 * STATE);
        due("no sorrow", none.many(2), 0);
        Desk.realm(none, "k2103,");
        due("a text that was not taken is none", none.grieve(0, 1), STATE);
    }

    private static void give() {
        DOC.promise(7, "OFFICE of a LINEN becomes a WEEPER: whose it was.");
        LinenLaw x = Desk.of(ONE);
        due("whose it was", x.give(3, 0), 3);
        due("becomes", x.ofLinen(3, 1), 0);
        due("no other", x.ofLinen(1, 1), 1);
        due("to 3", x.give(0, 3), 0);
        due("becomes", x.ofLinen(0, 1), 3);
        due("to whom it is", x.give(0, 3), 3);
        DOC.promise(7, "UNKNOWN: LINEN, WEEPER.");
        Twins.range(DOC, "linen", 0, 3, UNKNOWN, KEPT, (y, l) -> y.give(l, 3));
        Twins.range(DOC, "weeper", 0, 3, UNKNOWN, KEPT, (y, w) -> y.give(3, w));
        due("both", x.give(4, 4), UNKNOWN);
    }

    private static void dries() {
        DOC.promise(8, "By how much a LINEN DRIES on a DAY");
        LinenLaw x = Desk.of("k0000,90;c01;l00;s09");
        int[][] rows = {{9, 0}, {10, 1}, {20, 2}};
        for (int l = 0; l < 3; l++) {
            for (int d = 0; d < 2; d++) {
                due(l + " on " + d, x.dries(l, d), rows[l][d]);
            }
        }
        x.warm(1, 4);
        due("by the heat that is", x.dries(2, 1), 10);
        DOC.promise(8, "(whatever its DAMP).");
        for (int v = 0; v < 10; v++) {
            due("of damp " + v, Desk.of("k0000,8;s0" + v).dries(0, 0), 18);
        }
        DOC.promise(8, "UNKNOWN: LINEN, DAY.");
        Twins.range(DOC, "linen", 0, 3, UNKNOWN, KEPT, (y, l) -> y.dries(l, 0));
        Twins.range(DOC, "day", 0, 2, UNKNOWN, KEPT, (y, d) -> y.dries(0, d));
    }
}
