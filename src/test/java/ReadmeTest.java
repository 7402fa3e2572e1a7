import java.io.IOException;
import java.lang.reflect.Method;
import java.lang.reflect.Modifier;
import java.net.URL;
import java.net.URLClassLoader;
import java.nio.file.Files;
import java.nio.file.Path;
import java.util.ArrayList;
import java.util.Comparator;
import java.util.List;
import java.util.TreeSet;
import java.util.function.Supplier;
import java.util.regex.Matcher;
import java.util.regex.Pattern;
import java.util.stream.Stream;
import javax.tools.ToolProvider;

/** README.md: the calls that it shows compile and answer what it says, and it names every call and every test. */
public final class ReadmeTest {
    private static final Due due = new Due();
    private static final Pattern BLOCK = Pattern.compile("```java\n(.*?)```", Pattern.DOTALL);
    private static final Pattern SILENT = Pattern.compile("(HearingDesk desk = new|desk\\.ways).*");
    private static final Pattern TOLD =
        Pattern.compile("(desk\\.\\w+\\(.*\\)); +// (answers [^ :]+|throws \\w+)(: .+)?");
    private static final Pattern ROW = Pattern.compile("(?m)^\\| (\\w+Test) \\|");

    public static void main(String[] args) throws Exception {
        String readme = Files.readString(Path.of("README.md"));
        shownCalls(readme);
        everyCallIsNamed(readme);
        everyTestIsNamed(readme);
        due.end();
    }

    private static void shownCalls(String readme) throws Exception {
        List<String> lines = new ArrayList<>();
        StringBuilder shown = new StringBuilder();
        StringBuilder asked = new StringBuilder();
        Matcher block = BLOCK.matcher(readme);
        while (block.find()) {
            shown.append("{\n").append(block.group(1)).append("}\n");
            asked.append("{\n");
            for (String line : block.group(1).split("\n")) {
                asked.append(asking(line, lines));
            }
            asked.append("}\n");
        }
        List<String> got = answers(shown.toString(), asked.toString());
        due.same("how many calls README.md shows", got.size(), lines.size());
        for (int i = 0; i < lines.size() && i < got.size(); i++) {
            due.text(lines.get(i), got.get(i), told(lines.get(i)));
        }
    }

    private static String told(String line) {
        Matcher told = TOLD.matcher(line);
        return told.matches() ? told.group(2) : "";
    }

    /** The line with its answer caught; one whose answer is told is kept among the lines. */
    private static String asking(String line, List<String> lines) {
        Matcher told = TOLD.matcher(line);
        if (!told.matches()) {
            due.holds("README.md tells the answer of " + line, SILENT.matcher(line).matches());
            return line + "\n";
        }
        lines.add(line);
        return "try { got.add(\"answers \" + " + told.group(1) + "); }"
            + " catch (RuntimeException e) { got.add(\"throws \" + e.getClass().getSimpleName()); }\n";
    }

    /** What the calls answer; what is shown is compiled beside them, as it stands. */
    private static List<String> answers(String shown, String asked) throws Exception {
        Path made = Files.createTempDirectory("readme");
        try {
            Path source = made.resolve("ReadmeCalls.java");
            Files.writeString(source, "import java.util.ArrayList;\nimport java.util.List;\n"
                + "public class ReadmeCalls implements java.util.function.Supplier<List<String>> {\n"
                + "public void shown() {\n" + shown + "}\n"
                + "public List<String> get() {\nList<String> got = new ArrayList<>();\n"
                + asked + "return got;\n}\n}\n");
            int code = ToolProvider.getSystemJavaCompiler().run(null, null, null,
                "-cp", System.getProperty("java.class.path"), "-d", made.toString(), source.toString());
            due.same("compiling the calls of README.md", code, 0);
            return code == 0 ? run(made) : List.of();
        } finally {
            delete(made);
        }
    }

    private static List<String> run(Path made) throws Exception {
        List<String> got = new ArrayList<>();
        try (URLClassLoader loader = new URLClassLoader(new URL[] {made.toUri().toURL()})) {
            Object calls = loader.loadClass("ReadmeCalls").getDeclaredConstructor().newInstance();
            for (Object answer : (List<?>) ((Supplier<?>) calls).get()) {
                got.add((String) answer);
            }
        }
        return got;
    }

    private static void delete(Path made) throws IOException {
        try (Stream<Path> all = Files.walk(made)) {
            for (Path path : all.sorted(Comparator.reverseOrder()).toList()) {
                Files.delete(path);
            }
        }
    }

    private static void everyCallIsNamed(String readme) {
        for (Method method : HearingDesk.class.getDeclaredMethods()) {
            if (Modifier.isPublic(method.getModifiers())) {
                String name = method.getName();
                due.holds("README.md tells of " + name, readme.contains("\n| `" + name + "("));
                due.holds("README.md shows " + name, readme.contains("\ndesk." + name + "("));
            }
        }
    }

    private static void everyTestIsNamed(String readme) throws IOException {
        TreeSet<String> named = new TreeSet<>();
        Matcher row = ROW.matcher(readme);
        while (row.find()) {
            named.add(row.group(1));
        }
        TreeSet<String> there = new TreeSet<>();
        try (Stream<Path> files = Files.list(Path.of("src/test/java"))) {
            files.map(file -> file.getFileName().toString()).filter(file -> file.endsWith("Test.java"))
                .forEach(file -> there.add(file.substring(0, file.length() - ".java".length())));
        }
        due.text("the tests that README.md names", named.toString(), there.toString());
    }
}
