import java.io.IOException;
import java.lang.reflect.Method;
import java.lang.reflect.Modifier;
import java.net.URL;
import java.net.URLClassLoader;
import java.nio.file.Files;
import java.nio.file.Path;
import java.util.ArrayList;
import java.util.List;
import java.util.regex.Matcher;
import java.util.regex.Pattern;
import javax.tools.ToolProvider;

/** What README.md says of the calls: its blocks of Java are compiled and run, each answer held against the one behind the call. */
public final class ReadmeTest {
    private static final Path README = Path.of("README.md");
    private static final Pattern CALL = Pattern.compile("house\\.(\\w+\\(.*\\)); +// (-?\\d+|true|false|throws \\w+)(: .+)?");
    private static final Pattern MADE = Pattern.compile("SampleHouse house = (new SampleHouse\\(\\);)");
    private static Check check = new Check();

    /** The lines between ```java and ```. */
    private static List<String> blocks(List<String> page) {
        List<String> lines = new ArrayList<>();
        boolean inside = false;
        for (String line : page) {
            if (line.startsWith("```")) {
                inside = line.equals("```java");
            } else if (inside) {
                lines.add(line);
            }
        }
        return lines;
    }

    /** A class whose answers() makes the calls; what stands behind them is put into due. */
    private static String program(List<String> lines, List<String> calls, List<String> due) {
        StringBuilder body = new StringBuilder();
        for (String line : lines) {
            Matcher made = MADE.matcher(line);
            Matcher call = CALL.matcher(line);
            if (made.matches()) {
                body.append("house = ").append(made.group(1)).append('\n');
            } else if (call.matches()) {
                body.append("try { all.add(String.valueOf(house.").append(call.group(1)).append(")); }")
                    .append(" catch (RuntimeException e) { all.add(\"throws \" + e.getClass().getSimpleName()); }\n");
                calls.add(call.group(1));
                due.add(call.group(2));
            } else {
                check.tell("neither a new object nor a call with its answer: " + line);
            }
        }
        return "import java.util.*; public final class ReadmeRuns { public static List<String> answers() {\n"
            + "List<String> all = new ArrayList<>(); SampleHouse house = null;\n" + body + "return all; } }\n";
    }

    private static List<?> answers(String program) throws IOException, ReflectiveOperationException {
        Path place = Files.createTempDirectory("readme");
        Path source = Files.writeString(place.resolve("ReadmeRuns.java"), program);
        String classes = System.getProperty("java.class.path");
        int failed = ToolProvider.getSystemJavaCompiler().run(null, null, null, "-cp", classes, "-d", place.toString(), source.toString());
        check.due("the page's calls compile", 0, failed);
        List<?> all = List.of();
        if (failed == 0) {
            try (URLClassLoader loader = new URLClassLoader(new URL[] {place.toUri().toURL()})) {
                all = (List<?>) loader.loadClass("ReadmeRuns").getMethod("answers").invoke(null);
            }
        }
        Files.deleteIfExists(place.resolve("ReadmeRuns.class"));
        Files.delete(source);
        Files.delete(place);
        return all;
    }

    private static void runs(List<String> page) throws IOException, ReflectiveOperationException {
        List<String> calls = new ArrayList<>();
        List<String> due = new ArrayList<>();
        List<?> got = answers(program(blocks(page), calls, due));
        check.due("calls of the page", calls.size(), got.size());
        check.due("the page has calls: " + calls.size(), true, calls.size() > 80);
        for (int i = 0; i < got.size(); i++) {
            boolean same = due.get(i).equals(got.get(i));
            check.due(calls.get(i) + ", of which the page says " + due.get(i) + ", answered " + got.get(i) + ": as it says", true, same);
        }
    }

    /** Each call of the face stands in a block, and in the table with as many arguments as it takes. */
    private static void names(List<String> page) {
        String blocks = String.join("\n", blocks(page));
        for (Method m : SampleHouse.class.getDeclaredMethods()) {
            if (Modifier.isPublic(m.getModifiers())) {
                check.due("a block has " + m.getName(), true, blocks.contains("house." + m.getName() + "("));
                check.due("the table has " + m.getName(), true, isInTable(page, m.getName(), m.getParameterCount()));
            }
        }
    }

    private static boolean isInTable(List<String> page, String name, int arguments) {
        String inside = arguments == 0 ? "" : "\\w+(?:, \\w+){" + (arguments - 1) + "}";
        Pattern call = Pattern.compile("`" + name + "\\(" + inside + "\\)`");
        for (String line : page) {
            if (line.startsWith("| `") && call.matcher(line).find()) {
                return true;
            }
        }
        return false;
    }

    /** Each test of the project is named. */
    private static void tests(List<String> page) throws IOException {
        String text = String.join("\n", page);
        try (var files = Files.list(Path.of("src/test/java"))) {
            for (Path file : (Iterable<Path>) files::iterator) {
                String name = file.getFileName().toString().replace(".java", "");
                if (name.endsWith("Test")) {
                    check.due("the page names " + name, true, text.contains("`" + name + "`"));
                    text = text.replace("`" + name + "`", "");
                }
            }
        }
        Matcher left = Pattern.compile("`\\w+Test`").matcher(text.replace("`ModelTest`", ""));
        check.due("the page names no test that there is not", false, left.find());
    }

    public static void main(String[] args) throws IOException, ReflectiveOperationException {
        List<String> page = Files.readAllLines(README);
        runs(page);
        names(page);
        tests(page);
        check.end("ReadmeTest");
    }
}
