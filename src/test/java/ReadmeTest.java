import java.io.IOException;
import java.lang.reflect.Method;
import java.lang.reflect.Modifier;
import java.net.URL;
import java.net.URLClassLoader;
import java.nio.file.Files;
import java.nio.file.Path;
import java.util.Set;
import java.util.TreeSet;
import java.util.regex.MatchResult;
import java.util.regex.Matcher;
import java.util.regex.Pattern;
import java.util.stream.Collectors;
import java.util.stream.Stream;
import javax.tools.ToolProvider;

/** README.md tells what is so: its example, its tables of refusals and faults, its list of tests. */
public final class ReadmeTest {
    private static final Check CHECK = new Check("ReadmeTest");
    private static final int[] NUMBERS = {-1, 0, 1, 3, 8};
    private static final int MANY_READINGS = 3;

    /** An object to ask, made anew for each call. */
    private interface Maker {
        LinenLaw make();
    }

    public static void main(String[] args) throws Exception {
        String page = Files.readString(Path.of("README.md"));
        example(page);
        refusals(page);
        faults(page);
        tests(page);
        CHECK.end();
    }

    private static MatchResult[] rows(String page, String row) {
        return Pattern.compile("(?m)^" + row + "$").matcher(page).results().toArray(MatchResult[]::new);
    }

    /** Answers of the example, which calls this by its compiled lines. */
    public static void due(String call, long got, long want) {
        CHECK.due(call, got, want);
    }

    private static void example(String page) throws Exception {
        String code = page.split("```java\n")[1].split("```")[0];
        Matcher told = Pattern.compile("(?m)^(x\\..*\\)); +// ([-\\w]+): .*$").matcher(code);
        CHECK.due("calls with their answer", told.results().count(), Pattern.compile("(?m)^x\\.").matcher(code).results().count());
        String asked = told.replaceAll("ReadmeTest.due(\"$1\", $1, $2);");
        Path dir = Files.createTempDirectory("readme");
        Path file = dir.resolve("Example.java");
        Files.writeString(file, "public class Example { static final int UNKNOWN = LinenLaw.UNKNOWN;"
            + "static final long LOST = LinenLaw.LOST; public static void main(String[] args) {\n" + asked + "}}\n");
        int compiled = ToolProvider.getSystemJavaCompiler().run(null, null, null,
            "-cp", System.getProperty("java.class.path"), "-d", dir.toString(), file.toString());
        CHECK.due("the example compiles", compiled, 0);
        try (URLClassLoader loader = new URLClassLoader(new URL[] {dir.toUri().toURL()})) {
            loader.loadClass("Example").getMethod("main", String[].class).invoke(null, (Object) new String[0]);
        }
        for (String made : new String[] {"Example.class", "Example.java", ""}) {
            Files.delete(dir.resolve(made));
        }
    }

    private static void refusals(String page) throws ReflectiveOperationException {
        MatchResult[] rows = rows(page, "\\| `(\\w+)` (-\\d) \\| (.*) \\|");
        CHECK.due("refusals", rows.length, 4);
        for (MatchResult row : rows) {
            int number = Integer.parseInt(row.group(2));
            CHECK.due(row.group(1), LinenLaw.class.getField(row.group(1)).getInt(null), number);
            if (number == LinenLaw.STATE) {
                CHECK.due("STATE in", named(row.group(3)), answering(LinenLaw::new, number).toString());
            }
            if (number == LinenLaw.FULL) {
                CHECK.due("FULL in", named(row.group(3)), answering(ReadmeTest::fullOfReadings, number).toString());
            }
        }
    }

    private static LinenLaw fullOfReadings() {
        LinenLaw x = Twins.made();
        while (x.many(MANY_READINGS) < 8) {
            x.reading(0, 0, 0);
        }
        return x;
    }

    private static void faults(String page) throws ReflectiveOperationException {
        MatchResult[] rows = rows(page, "\\| (\\d) \\| (-\\d+) \\| [A-Z]+: .* \\| (.*) \\|");
        CHECK.due("faults", rows.length, 4);
        for (MatchResult row : rows) {
            int fault = Integer.parseInt(row.group(1));
            CHECK.due("what fault " + fault + " answers", Integer.parseInt(row.group(2)), -10 - fault);
            CHECK.due("fault " + fault + " in", named(row.group(3)), faulting(fault).toString());
        }
    }

    private static String named(String cell) {
        return Pattern.compile("`(\\w+)`").matcher(cell).results().map(r -> r.group(1))
            .collect(Collectors.toCollection(TreeSet::new)).toString();
    }

    /** The calls that answer a number by some arguments. */
    private static Set<String> answering(Maker maker, int number) throws ReflectiveOperationException {
        Set<String> found = new TreeSet<>();
        for (Method method : calls()) {
            for (Object[] row : argumentsOf(method)) {
                if (((Number) method.invoke(maker.make(), row)).longValue() == number) {
                    found.add(method.getName());
                }
            }
        }
        return found;
    }

    /** The calls that come to a fault by some arguments; each answers as the page says. */
    private static Set<String> faulting(int fault) throws ReflectiveOperationException {
        Set<String> found = new TreeSet<>();
        for (Method method : calls()) {
            for (Object[] row : argumentsOf(method)) {
                LinenLaw x = Twins.made();
                x.as(0, 0);
                long answer = ((Number) method.invoke(x, row)).longValue();
                if (x.fault() == fault) {
                    found.add(method.getName());
                    boolean inLong = method.getReturnType() == long.class;
                    CHECK.due(method.getName(), answer, inLong ? LinenLaw.LOST : -10 - fault);
                }
            }
        }
        return found;
    }

    private static Method[] calls() {
        return Stream.of(LinenLaw.class.getDeclaredMethods())
            .filter(method -> Modifier.isPublic(method.getModifiers())).toArray(Method[]::new);
    }

    private static Object[][] argumentsOf(Method method) {
        int parameters = method.getParameterCount();
        Object[][] rows = new Object[(int) Math.pow(NUMBERS.length, parameters)][parameters];
        for (int k = 0; k < rows.length; k++) {
            int rest = k;
            for (int p = 0; p < parameters; p++, rest /= NUMBERS.length) {
                rows[k][p] = NUMBERS[rest % NUMBERS.length];
            }
        }
        return rows;
    }

    private static void tests(String page) throws IOException {
        Set<String> told = new TreeSet<>();
        for (MatchResult row : rows(page, "\\| `(\\w+Test)` \\| .* \\|")) {
            told.add(row.group(1) + ".java");
        }
        try (Stream<Path> files = Files.list(Path.of("src/test/java"))) {
            Set<String> there = files.map(file -> file.getFileName().toString())
                .filter(name -> name.endsWith("Test.java")).collect(Collectors.toCollection(TreeSet::new));
            CHECK.due("tests", told.toString(), there.toString());
        }
    }
}
