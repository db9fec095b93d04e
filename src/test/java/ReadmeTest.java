import java.io.IOException;
import java.net.URL;
import java.net.URLClassLoader;
import java.nio.charset.StandardCharsets;
import java.nio.file.Files;
import java.nio.file.Path;
import java.util.ArrayList;
import java.util.List;
import java.util.Set;
import java.util.TreeSet;
import java.util.regex.Matcher;
import java.util.regex.Pattern;
import java.util.stream.Stream;
import javax.tools.ToolProvider;

/** What README.md shows is what the program does; it names each call and each test. */
public final class ReadmeTest {
    private static final Due due = new Due("README.md");
    private static final Path PAGE = Path.of("README.md"), TESTS = Path.of("src/test/java");

    /** "x.row(0, 3);   // 3: why": a call and what it answers, by a number or a constant's name. */
    private static final Pattern ANSWERED = Pattern.compile("(x\\.\\w+\\(.*\\));\\s*//\\s*(-?\\w+)(:.*)?");
    private static final Pattern CONSTANT = Pattern.compile("\\| `(\\w+)` \\| (-\\d+) \\|");

    public static void main(String[] args) throws IOException, ReflectiveOperationException {
        String page = Files.readString(PAGE, StandardCharsets.UTF_8);
        answers(page);
        constants(page);
        calls(page);
        tests(page);
        due.end();
    }

    // ---- the Java that is shown, all of it as one method that tells what each call answered

    private static void answers(String page) throws IOException, ReflectiveOperationException {
        Path folder = Files.createTempDirectory("readme");
        try {
            Path source = folder.resolve("Shown.java");
            Files.writeString(source, program(page), StandardCharsets.UTF_8);
            int failed = ToolProvider.getSystemJavaCompiler().run(null, null, null, "-encoding", "UTF-8", "-cp",
                System.getProperty("java.class.path"), "-d", folder.toString(), source.toString());
            due.is("compiling what is shown", failed, 0);
            if (failed == 0) {
                play(folder);
            }
        } finally {
            remove(folder);
        }
    }

    private static String program(String page) {
        StringBuilder all = new StringBuilder("public final class Shown {\n"
            + "    public static void play(java.util.List<Object[]> answers) {\n");
        for (String line : shown(page)) {
            Matcher answered = ANSWERED.matcher(line.trim());
            if (answered.matches()) {
                String call = answered.group(1);
                String answer = answered.group(2);
                String want = Character.isLetter(answer.charAt(0)) ? "ChairCabinet." + answer : answer;
                all.append("answers.add(new Object[] {\"").append(call.replaceAll("[\\\\\"]", "\\\\$0"))
                    .append("\", (long) ").append(call).append(", (long) ").append(want).append("});\n");
            } else {
                due.is("nothing said behind: " + line, line.contains("//") ? 1 : 0, 0);
                all.append(line).append('\n');
            }
        }
        return all.append("    }\n}\n").toString();
    }

    private static List<String> shown(String page) {
        List<String> lines = new ArrayList<>();
        Matcher block = Pattern.compile("(?ms)^```java\n(.*?)^```$").matcher(page);
        while (block.find()) {
            lines.addAll(List.of(block.group(1).split("\n")));
        }
        return lines;
    }

    private static void play(Path folder) throws IOException, ReflectiveOperationException {
        List<Object[]> answers = new ArrayList<>();
        try (URLClassLoader loader = new URLClassLoader(new URL[] {folder.toUri().toURL()},
                ReadmeTest.class.getClassLoader())) {
            loader.loadClass("Shown").getMethod("play", List.class).invoke(null, answers);
        }
        due.is("some answers are shown", answers.isEmpty() ? 0 : 1, 1);
        for (Object[] answer : answers) {
            due.is((String) answer[0], (Long) answer[1], (Long) answer[2]);
        }
    }

    private static void remove(Path folder) throws IOException {
        try (Stream<Path> inside = Files.list(folder)) {
            for (Path file : inside.toList()) {
                Files.delete(file);
            }
        }
        Files.delete(folder);
    }

    // ---- what is named

    private static void constants(String page) throws ReflectiveOperationException {
        Matcher constant = CONSTANT.matcher(page);
        int told = 0;
        while (constant.find()) {
            due.is(constant.group(1), Integer.parseInt(constant.group(2)),
                ChairCabinet.class.getField(constant.group(1)).getInt(null));
            told++;
        }
        due.is("constants", told, ChairCabinet.class.getFields().length);
    }

    /** Each call, with its arguments as the document names them, and each shown once at least. */
    private static void calls(String page) throws IOException {
        String shown = String.join("\n", shown(page));
        for (String call : FaceTest.printedMethods()) {
            String name = call.substring(call.indexOf(' ') + 1, call.indexOf('('));
            String parameters = call.substring(call.indexOf('(') + 1, call.indexOf(')')).replaceAll("\\bint ", "");
            String told = "`" + name + "(" + parameters + ")`";
            due.is("named: " + told, page.contains(told) ? 1 : 0, 1);
            due.is("shown: " + name, shown.contains("x." + name + "(") ? 1 : 0, 1);
        }
    }

    private static void tests(String page) throws IOException {
        Set<String> there = new TreeSet<>();
        try (Stream<Path> files = Files.list(TESTS)) {
            files.map(file -> file.getFileName().toString()).filter(name -> name.endsWith("Test.java"))
                .forEach(name -> there.add(name.replace(".java", "")));
        }
        Set<String> named = new TreeSet<>();
        Matcher test = Pattern.compile("`(\\w+Test)`").matcher(page);
        while (test.find()) {
            named.add(test.group(1));
        }
        due.same("the tests that are named", named, there);
    }
}
