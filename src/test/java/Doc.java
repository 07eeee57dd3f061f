import java.io.IOException;
import java.io.UncheckedIOException;
import java.nio.file.Files;
import java.nio.file.Path;
import java.util.BitSet;
import java.util.LinkedHashMap;
import java.util.Map;
import java.util.regex.Matcher;
import java.util.regex.Pattern;

/**
 * One part of the document, and under each of its sentences the answers that are due by it. A test names a sentence
 * in the document's own words; it ends well only if every word of its part stands in a sentence that was looked at.
 */
final class Doc {
    private static final Path FILE = Path.of("../shared/DOC.md");
    private static final String TERMS = "terms", USE = "use";
    /** The first promise and the last one of each part; part 0 is what all calls share. */
    private static final int[][] PROMISES = {{1, 0}, {1, 8}, {9, 11}, {12, 15}, {16, 21}, {22, 32}};

    private final Check check;
    private final Map<String, String> texts = new LinkedHashMap<>();
    private final Map<String, BitSet> seen = new LinkedHashMap<>();
    private String sentence = "";
    private int asked = 1;

    Doc(String name, int part) {
        check = new Check(name);
        String all = read();
        add(TERMS, termsOf(all, part));
        if (part == 0) {
            add(USE, "An object is used for" + between(all, "An object is used for", ";"));
        }
        for (int p = PROMISES[part][0]; p <= PROMISES[part][1]; p++) {
            add(placeOf(p), promiseOf(all, p));
        }
    }

    private static String read() {
        try {
            return Files.readString(FILE);
        } catch (IOException e) {
            throw new UncheckedIOException(e);
        }
    }

    private void add(String place, String text) {
        texts.put(place, text.replaceAll("\\s+", " "));
        seen.put(place, new BitSet());
    }

    private static String placeOf(int promise) {
        return "promise " + promise;
    }

    private static String termsOf(String all, int part) {
        String terms = between(all, "## Terms", "\nAhead of the calls");
        return terms.replaceAll("```(text)?", "").split("==== \\d ")[part];
    }

    /** What a promise says behind the line of code that it begins with. */
    private static String promiseOf(String all, int promise) {
        String section = between(all, "## Promise " + promise + ":", "\n## ");
        return section.substring(section.indexOf("`: ") + 3);
    }

    private static String between(String all, String head, String end) {
        int from = all.indexOf(head) + head.length();
        return all.substring(from, all.indexOf(end, from));
    }

    /** How many promises the document has. */
    static int promises() {
        Matcher heads = Pattern.compile("(?m)^## Promise ").matcher(read());
        return (int) heads.results().count();
    }

    static int lastPromise() {
        return PROMISES[PROMISES.length - 1][1];
    }

    /** What follows is due by what is told of how an object is used. */
    void use(String quote) {
        of(USE, quote);
    }

    /** What follows is due by a sentence of the part's terms. */
    void terms(String quote) {
        of(TERMS, quote);
    }

    /** What follows is due by a sentence of a promise. */
    void promise(int number, String quote) {
        of(placeOf(number), quote);
    }

    private void of(String place, String quote) {
        endSentence();
        sentence = place + " '" + quote + "'";
        asked = 0;
        String text = texts.get(place);
        int from = text.indexOf(quote);
        check.isSo(sentence + " stands in the document, once", from >= 0 && text.indexOf(quote, from + 1) < 0);
        if (from >= 0) {
            seen.get(place).set(from, from + quote.length());
        }
    }

    private void endSentence() {
        check.isSo(sentence + " has been looked at", asked > 0);
    }

    void due(String call, long got, long want) {
        asked++;
        check.due(sentence + ": " + call, got, want);
    }

    void due(String what, String got, String want) {
        asked++;
        check.due(sentence + ": " + what, got, want);
    }

    void isSo(String what, boolean so) {
        asked++;
        check.isSo(sentence + ": " + what, so);
    }

    void end() {
        endSentence();
        texts.forEach((place, text) -> {
            for (int p = 0; p < text.length(); p++) {
                boolean ofWord = Character.isLetterOrDigit(text.charAt(p));
                if (ofWord && !seen.get(place).get(p)) {
                    int end = Math.max(p + 1, seen.get(place).nextSetBit(p));
                    check.isSo(place + " has a test for '" + text.substring(p, end) + "'", false);
                    p = end;
                }
            }
        });
        check.end();
    }
}
