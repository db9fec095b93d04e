import java.io.IOException;
import java.lang.reflect.Constructor;
import java.lang.reflect.Field;
import java.lang.reflect.Method;
import java.lang.reflect.Modifier;
import java.nio.charset.StandardCharsets;
import java.nio.file.Files;
import java.nio.file.Path;
import java.util.ArrayList;
import java.util.List;
import java.util.Set;
import java.util.TreeSet;
import java.util.regex.Matcher;
import java.util.regex.Pattern;

/** The public face of the document, and the rules of LANGUAGE.md that a text can show. */
public final class FaceTest {
    private static final Due due = new Due("the face");

    private static final String[] METHODS = {
        "int row(int, int)", "int lay(int, int, int)", "int at(int, int)", "int tear(int)",
        "int copy(int, int, int, int, int)", "int mean(int)", "int text(int, int)", "int put(int, int, int)",
        "int fault(int)", "int cabinet(int)", "int minister(int, int)", "int mark(int, int)",
        "int bar()", "int stop()", "int take(int)", "int nudge(int)", "int undo(int)", "int keep(int)",
        "int on(int)", "int where(int, int)", "int sits(int)", "int bars(int)", "int when(int)",
        "int remove(int, int)", "int spare(int, int)", "int reign(int, int, int)", "int kinds(int, int)",
        "int paces(int, int)", "int places(int, int)", "int tune(int)", "int bribe(int, int)",
        "int odds(int, int, int)", "int mid(int, int)", "int lots(int, int)", "int asked()",
        "long upper()", "long lower()", "int count(int)", "int finding()", "int findings(int)",
        "long digest()"};

    public static void main(String[] args) throws IOException, ReflectiveOperationException {
        printed();
        methods();
        constants();
        classes();
        source(Files.readString(Path.of("src/main/java/ChairCabinet.java"), StandardCharsets.ISO_8859_1));
        due.end();
    }

    private static void holds(String what, boolean fact) {
        due.is(what, fact ? 1 : 0, 1);
    }

    private static String told(Method method) {
        StringBuilder all = new StringBuilder();
        for (Class<?> kind : method.getParameterTypes()) {
            all.append(all.length() == 0 ? "" : ", ").append(kind.getName());
        }
        return method.getReturnType().getName() + " " + method.getName() + "(" + all + ")";
    }

    // ---- the face as the document prints it

    private static String printedFace() throws IOException {
        String document = Files.readString(Path.of("../shared/DOC.md"), StandardCharsets.UTF_8);
        Matcher face = Pattern.compile("(?s)## The public face\\s+```java\n(.*?)```").matcher(document);
        return face.find() ? face.group(1) : "";
    }

    /** The methods of the face, with their parameters' names: "int row(int r, int n)". */
    static List<String> printedMethods() throws IOException {
        List<String> all = new ArrayList<>();
        Matcher method = Pattern.compile("public (\\w+ \\w+\\([^)]*\\));").matcher(printedFace());
        while (method.find()) {
            all.add(method.group(1));
        }
        return all;
    }

    private static void printed() throws IOException, ReflectiveOperationException {
        List<String> printed = new ArrayList<>();
        for (String method : printedMethods()) {
            printed.add(method.replaceAll("\\bint (\\w+)(?=[,)])", "int"));
        }
        due.same("the methods that are printed", printed, List.of(METHODS));
        Matcher constants = Pattern.compile("static final int ([^;]*);").matcher(printedFace());
        String[] each = constants.find() ? constants.group(1).split(", ") : new String[0];
        due.is("constants that are printed", each.length, 6);
        for (String constant : each) {
            String[] sides = constant.split(" = ");
            due.is(sides[0], ChairCabinet.class.getField(sides[0]).getInt(null), Integer.parseInt(sides[1]));
        }
    }

    private static void methods() {
        Set<String> wanted = new TreeSet<>(Set.of(METHODS));
        Set<String> names = new TreeSet<>();
        for (String method : METHODS) {
            names.add(method.substring(method.indexOf(' ') + 1, method.indexOf('(')));
        }
        for (Method method : ChairCabinet.class.getDeclaredMethods()) {
            int modifiers = method.getModifiers();
            if (Modifier.isPublic(modifiers)) {
                holds("wanted: " + told(method), wanted.remove(told(method)));
                holds("of an object: " + told(method), !Modifier.isStatic(modifiers));
            } else {
                holds("private: " + told(method), Modifier.isPrivate(modifiers));
                holds("no lambda: " + told(method), !method.isSynthetic());
                holds("no public one's name: " + told(method), !names.contains(method.getName()));
            }
        }
        due.is("missing: " + wanted, wanted.size(), 0);
        for (Class<?> inside : ChairCabinet.class.getDeclaredClasses()) {
            for (Method method : inside.getDeclaredMethods()) {
                holds("seven parameters at most: " + told(method), method.getParameterCount() <= 7);
            }
        }
        Constructor<?>[] constructors = ChairCabinet.class.getConstructors();
        due.is("public constructors", constructors.length, 1);
        due.is("its parameters", constructors[0].getParameterCount(), 0);
        for (Constructor<?> other : ChairCabinet.class.getDeclaredConstructors()) {
            holds("public or private: " + other,
                Modifier.isPublic(other.getModifiers()) || Modifier.isPrivate(other.getModifiers()));
        }
    }

    private static void constants() {
        due.is("BAD", ChairCabinet.BAD, -1);
        due.is("FULL", ChairCabinet.FULL, -2);
        due.is("FINDING", ChairCabinet.FINDING, -3);
        due.is("STATE", ChairCabinet.STATE, -4);
        due.is("SPENT", ChairCabinet.SPENT, -6);
        due.is("NONE", ChairCabinet.NONE, -9);
        int open = 0;
        for (Field field : ChairCabinet.class.getDeclaredFields()) {
            int modifiers = field.getModifiers();
            open += Modifier.isPublic(modifiers) ? 1 : 0;
            holds("public or private: " + field,
                Modifier.isPublic(modifiers) || Modifier.isPrivate(modifiers));
            holds("final if static: " + field, !Modifier.isStatic(modifiers) || Modifier.isFinal(modifiers));
        }
        due.is("public constants", open, 6);
    }

    private static void classes() {
        holds("public", Modifier.isPublic(ChairCabinet.class.getModifiers()));
        holds("final", Modifier.isFinal(ChairCabinet.class.getModifiers()));
        holds("without a package", ChairCabinet.class.getPackageName().isEmpty());
        Class<?>[] inside = ChairCabinet.class.getDeclaredClasses();
        holds("some twelve classes at most", inside.length <= 11);
        for (Class<?> one : inside) {
            int modifiers = one.getModifiers();
            holds("static: " + one, Modifier.isStatic(modifiers));
            holds("not open: " + one, !Modifier.isPublic(modifiers) && !Modifier.isProtected(modifiers));
        }
    }

    private static void source(String source) {
        holds("signs 1 to 127", source.chars().allMatch(sign -> sign >= 1 && sign <= 127));
        String code = source.replaceAll("(?s)/\\*.*?\\*/", " ").replaceAll("//[^\n]*", " ");
        String[] none = {"\\b(throw|throws|try|catch|synchronized|assert|package)\\b", "static\\s*\\{", "::",
            "\\w+Exact\\b", "\\b(equals|hashCode|toString)\\s*\\([^)]*\\)\\s*\\{"};
        for (String one : none) {
            holds("none of: " + one, !Pattern.compile(one).matcher(code).find());
        }
        onlyOf(code, "import ([\\w.*]+)", "java.util.Arrays", "java.util.ArrayList", "java.util.List",
            "java.util.Iterator", "java.util.*");
        onlyOf(code, "\\bArrays\\.(\\w+)", "fill", "copyOf", "copyOfRange");
        onlyOf(code, "\\bSystem\\.(\\w+)", "arraycopy");
    }

    private static void onlyOf(String code, String pattern, String... allowed) {
        Matcher matcher = Pattern.compile(pattern).matcher(code);
        while (matcher.find()) {
            holds("allowed: " + matcher.group(), Set.of(allowed).contains(matcher.group(1)));
        }
    }
}
