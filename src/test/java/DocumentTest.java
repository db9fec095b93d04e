import java.io.IOException;
import java.lang.reflect.Method;
import java.nio.charset.StandardCharsets;
import java.nio.file.Files;
import java.nio.file.Path;
import java.util.ArrayList;
import java.util.BitSet;
import java.util.List;
import java.util.Map;
import java.util.TreeMap;
import java.util.regex.Matcher;
import java.util.regex.Pattern;

/** Each word of the document's Terms and promises is one that a test says it holds the program to. */
public final class DocumentTest {
    private static final Due due = new Due("the document");
    private static final Path DOCUMENT = Path.of("../shared/DOC.md");
    private static final int TERMS = 0, PROMISES = 42;

    private static final Class<?>[] TESTS = {AnswersTest.class, RowsTest.class, TextsTest.class,
        LanguageTest.class, MinistersTest.class, StopsTest.class, DeedsTest.class, AsideTest.class,
        ChairsTest.class, CluesTest.class, ChancesTest.class, ToldTest.class};

    public static void main(String[] args) throws IOException {
        Map<Integer, String> sections = sections(Files.readString(DOCUMENT, StandardCharsets.UTF_8));
        due.is("promises", sections.size() - 1, PROMISES);
        Map<Integer, BitSet> said = new TreeMap<>();
        for (Class<?> tests : TESTS) {
            marksAll(tests);
            for (Method test : Due.testsOf(tests)) {
                Says says = test.getAnnotation(Says.class);
                for (String words : says.words()) {
                    mark(tests.getName() + "." + test.getName(), sections.getOrDefault(says.of(), ""), words,
                        said.computeIfAbsent(says.of(), of -> new BitSet()));
                }
            }
        }
        for (Map.Entry<Integer, String> section : sections.entrySet()) {
            List<String> rest = unsaid(section.getValue(), said.getOrDefault(section.getKey(), new BitSet()));
            due.is((section.getKey() == TERMS ? "Terms" : "Promise " + section.getKey())
                + ", words without a test " + rest, rest.size(), 0);
        }
        due.end();
    }

    /** The Terms (0) and the promises by their numbers, in one line each, without what is no promise. */
    private static Map<Integer, String> sections(String document) {
        Map<Integer, String> all = new TreeMap<>();
        for (String part : document.split("(?m)^## ")) {
            String title = part.substring(0, Math.max(0, part.indexOf('\n')));
            String body = part.substring(title.length()).replaceAll("(?m)^```.*$", "").replaceAll("\\s+", " ");
            Matcher promise = Pattern.compile("Promise (\\d+): .*").matcher(title);
            if (title.equals("Terms")) {
                all.put(TERMS, body.replaceAll("======== (ANSWERS\\.|\\d)", "")
                    .replaceAll("Ahead of the calls [^:]*: ---- \\d [^.(]*", ""));
            } else if (promise.matches()) {
                all.put(Integer.parseInt(promise.group(1)), body.replaceFirst("^ `[^`]*`: ", ""));
            }
        }
        return all;
    }

    /** A test that forgets to say its words would not be run. */
    private static void marksAll(Class<?> tests) {
        for (Method method : tests.getDeclaredMethods()) {
            boolean isTest = method.getParameterCount() == 1 && method.getParameterTypes()[0] == Due.class;
            due.is(tests.getName() + "." + method.getName() + ": a test says its words",
                isTest == method.isAnnotationPresent(Says.class) ? 1 : 0, 1);
        }
    }

    private static void mark(String test, String section, String words, BitSet said) {
        int found = 0;
        for (int i = section.indexOf(words); i >= 0; i = section.indexOf(words, i + 1)) {
            said.set(i, i + words.length());
            found++;
        }
        due.is(test + ": the document says '" + words + "'", found > 0 ? 1 : 0, 1);
    }

    private static List<String> unsaid(String section, BitSet said) {
        List<String> all = new ArrayList<>();
        StringBuilder rest = new StringBuilder();
        for (int i = 0; i <= section.length(); i++) {
            if (i < section.length() && !said.get(i)) {
                rest.append(section.charAt(i));
            } else {
                if (rest.chars().anyMatch(Character::isLetterOrDigit)) {
                    all.add("'" + rest + "'");
                }
                rest.setLength(0);
            }
        }
        return all;
    }
}
