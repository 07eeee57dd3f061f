import java.io.IOException;
import java.nio.file.Files;
import java.nio.file.Path;
import java.util.regex.Matcher;
import java.util.regex.Pattern;

/** What of LANGUAGE.md can be seen in the source's own words; run from the project's folder. */
public final class LanguageTest {
    private static final Check CHECK = new Check("LanguageTest");
    private static final Path SOURCE = Path.of("src/main/java/LinenLaw.java");
    private static final String[] NEVER = {
        "throw", "throws", "try", "catch", "finally", "synchronized", "assert", "package", "native", "volatile",
        "Thread", "System\\.(?!arraycopy\\b)\\w+", "Random", "hashCode", "equals", "\\w+Exact", "char\\[\\]\\[\\]",
        "Object", "var", "import (?!java\\.util\\.Arrays;)", "static \\{", "while", "yield", "new \\w+\\[\\w+\\]\\[",
    };

    public static void main(String[] args) throws IOException {
        String source = Files.readString(SOURCE);
        CHECK.isSo("4: signs 1 to 127", source.chars().allMatch(c -> c > 0 && c < 128));
        String code = bare(source);
        for (String never : NEVER) {
            Matcher found = Pattern.compile("(?<!\\w)" + never + (never.endsWith("\\w+") ? "" : "(?!\\w)")).matcher(code);
            CHECK.isSo("no " + never, !found.find());
        }
        CHECK.isSo("2: no lambda, no method reference", !code.contains("->") && !code.contains("::"));
        lengths(code);
        CHECK.end();
    }

    /** The source without comments, and without what stands in signs and texts. */
    private static String bare(String source) {
        return source.replaceAll("(?s)/\\*.*?\\*/", "").replaceAll("//[^\n]*", "")
            .replaceAll("'(\\\\.|[^'\\\\])'", "' '").replaceAll("\"(\\\\.|[^\"\\\\])*\"", "\"\"");
    }

    private static void lengths(String code) {
        String[] lines = code.split("\n");
        int methods = 0;
        for (int from = 0; from < lines.length; from++) {
            Matcher head = Pattern.compile("^(    |        )\\w[\\w\\[\\] ]*\\(.*\\{$").matcher(lines[from]);
            if (!head.matches()) {
                continue;
            }
            int to = from;
            while (!lines[to].equals(head.group(1) + "}")) {
                to++;
            }
            methods++;
            CHECK.isSo("11: some sixty lines at most: " + lines[from], to - from < 60);
        }
        CHECK.isSo("methods are found", methods > 40);
    }
}
