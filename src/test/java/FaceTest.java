import java.lang.reflect.Constructor;
import java.lang.reflect.Field;
import java.lang.reflect.Member;
import java.lang.reflect.Method;
import java.lang.reflect.Modifier;
import java.nio.file.Files;
import java.nio.file.Path;
import java.util.ArrayList;
import java.util.HashSet;
import java.util.List;
import java.util.Set;
import java.util.TreeSet;
import java.util.regex.Matcher;
import java.util.regex.Pattern;
import java.util.stream.Collectors;

/** The public face: that of the document and nothing else (LANGUAGE.md, rules 1, 2, 5 and 11), told as there. */
public final class FaceTest {
    private static final Check CHECK = new Check("FaceTest");
    private static final String[] METHODS = {
        "int realm(int,int,int,int)", "int ofLinen(int,int)", "int heat(int)", "int warm(int,int)",
        "int grieve(int,int)", "int give(int,int)", "int dries(int,int)", "int damp(int,int)", "int laws(int)",
        "int weeping(int,int,int,int,int)", "int tears(int)", "int keep()", "int appoint(int)", "int span(int,int)",
        "int reading(int,int,int)", "int back(int)", "int damps(int)", "int kinds(int)", "int heats(int)",
        "long odds(int,int)", "int sheet(int,int,int)", "int lose(int)", "int put(int,int,int)",
        "long cell(int,int,int)", "int copy(int,int,int,int,int)", "int tell(int)", "int knot(int)",
        "int as(int,int)", "int trace()", "int fault()", "int many(int)",
    };

    public static void main(String[] args) throws Exception {
        face();
        constants();
        insides();
        String document = Files.readString(Path.of("../shared/DOC.md"));
        String source = Files.readString(Path.of("src/main/java/LinenLaw.java"));
        declarations(document, source);
        interfaceLines(document, source);
        CHECK.end();
    }

    /** The document's lines of the public face stand in the source, in the same order and in the same words. */
    private static void declarations(String document, String source) {
        String face = document.split("## The public face\\s+```java\n")[1].split("```")[0];
        CHECK.due("declarations", open(source), open(face));
    }

    private static String open(String code) {
        return Pattern.compile("(?m)^ *(public [^;{\n]*?) ?[;{]$").matcher(code).results()
            .map(found -> found.group(1)).collect(Collectors.joining("\n"));
    }

    /** Each line that the interface says stands in the source ahead of just the calls that the document names. */
    private static void interfaceLines(String document, String source) {
        Matcher lines = Pattern.compile("(?m)^Ahead of the calls (.*) the interface says: (---- .*)\\.$").matcher(document);
        List<String> due = new ArrayList<>();
        while (lines.find()) {
            due.add("// " + lines.group(2) + ": " + lines.group(1).replace("`", ""));
        }
        CHECK.due("lines that the interface says", due.size(), 5);
        List<String> got = new ArrayList<>();
        for (String part : source.split("\n    (?=// ----)")) {
            String calls = Pattern.compile("(?m)^    public (?:int|long) (\\w+)\\(").matcher(part).results()
                .map(found -> found.group(1)).collect(Collectors.joining(", "));
            if (!calls.isEmpty()) {
                got.add(part.substring(0, part.indexOf('\n')) + ": " + calls);
            }
        }
        CHECK.due("what they stand ahead of", String.join("\n", got), String.join("\n", due));
    }

    private static void face() {
        Class<?> c = LinenLaw.class;
        CHECK.isSo("1: the class is public and final",
            Modifier.isPublic(c.getModifiers()) && Modifier.isFinal(c.getModifiers()));
        CHECK.isSo("1: it extends and implements nothing",
            c.getSuperclass() == Object.class && c.getInterfaces().length == 0);
        Set<String> open = new TreeSet<>();
        for (Method method : c.getDeclaredMethods()) {
            if (isOpen(method)) {
                open.add(told(method));
            }
        }
        CHECK.due("the methods", open.toString(), new TreeSet<>(java.util.List.of(METHODS)).toString());
        Constructor<?>[] constructors = c.getDeclaredConstructors();
        CHECK.isSo("1: one public constructor without arguments", constructors.length == 1
            && Modifier.isPublic(constructors[0].getModifiers()) && constructors[0].getParameterCount() == 0);
    }

    private static boolean isOpen(Member member) {
        return !Modifier.isPrivate(member.getModifiers()) && !member.isSynthetic();
    }

    private static String told(Method method) {
        StringBuilder types = new StringBuilder();
        for (Class<?> type : method.getParameterTypes()) {
            types.append(types.length() > 0 ? "," : "").append(type.getSimpleName());
        }
        boolean plain = Modifier.isPublic(method.getModifiers()) && !Modifier.isStatic(method.getModifiers());
        return (plain ? "" : "not plain: ") + method.getReturnType().getSimpleName() + " " + method.getName()
            + "(" + types + ")";
    }

    private static void constants() throws IllegalAccessException {
        Set<String> open = new TreeSet<>();
        for (Field field : LinenLaw.class.getDeclaredFields()) {
            if (isOpen(field)) {
                open.add(Modifier.toString(field.getModifiers()) + " " + field.getType() + " " + field.getName()
                    + " " + field.get(null));
            }
        }
        CHECK.due("the constants", open.toString(), "[public static final int FULL -4, "
            + "public static final int NONE -9, public static final int OUTSIDE -2, "
            + "public static final int STATE -3, public static final int UNKNOWN -1, "
            + "public static final long LOST -9223372036854775808]");
    }

    private static void insides() {
        Set<String> names = new HashSet<>();
        for (String method : METHODS) {
            names.add(method.substring(method.indexOf(' ') + 1, method.indexOf('(')));
        }
        Class<?>[] nested = LinenLaw.class.getDeclaredClasses();
        CHECK.isSo("11: some twelve classes at most", nested.length < 12);
        inside(LinenLaw.class, names, true);
        for (Class<?> c : nested) {
            int mods = c.getModifiers();
            CHECK.isSo("2: " + c + " is static and not open", Modifier.isStatic(mods)
                && !Modifier.isPublic(mods) && !Modifier.isProtected(mods));
            inside(c, names, false);
        }
    }

    private static void inside(Class<?> c, Set<String> names, boolean isFace) {
        int own = 0;
        for (Field field : c.getDeclaredFields()) {
            int mods = field.getModifiers();
            own += Modifier.isStatic(mods) ? 0 : 1;
            CHECK.isSo("5: " + field + " is final if static", !Modifier.isStatic(mods) || Modifier.isFinal(mods));
        }
        CHECK.isSo("11: some twenty fields at most in " + c, own <= 20);
        for (Method method : c.getDeclaredMethods()) {
            CHECK.isSo("11: seven parameters at most: " + method, method.getParameterCount() <= 7);
            boolean bears = names.contains(method.getName());
            CHECK.isSo("1: no name of a public one: " + method, !bears || isFace && isOpen(method));
        }
    }
}
