import java.io.IOException;
import java.lang.reflect.Method;
import java.lang.reflect.Modifier;
import java.net.URL;
import java.net.URLClassLoader;
import java.nio.file.Files;
import java.nio.file.Path;
import java.util.ArrayList;
import java.util.Arrays;
import java.util.List;
import java.util.TreeSet;
import java.util.regex.Matcher;
import java.util.regex.Pattern;
import java.util.stream.Stream;
import javax.tools.ToolProvider;

/** What README.md shows of the class is so: its examples are compiled and run, its table is set beside the class. */
public final class ReadmeTest {
    /** A statement of an example: the variable it makes, if any, its call, and what stands behind it. */
    private static final Pattern STATEMENT =
            Pattern.compile("(?:int (\\w+) = )?(x\\.(\\w+)\\(([^()]*)\\));(?:\\s*//\\s*(.*))?");
    private static final Pattern ANSWER = Pattern.compile("(-?\\d+|true|false|throws \\w+)(?::.*)?");
    private static final Pattern ROW = Pattern.compile("\\| `(\\w+)\\(([^)]*)\\)` \\|[^|]*\\| ?([^|]*)\\|");
    private static final String OPENING = "SafeControl x = new SafeControl();";

    private final List<String> lines;
    private final List<String> calls = new ArrayList<>();
    private final List<String> due = new ArrayList<>();
    private final TreeSet<String> shown = new TreeSet<>();

    private ReadmeTest(List<String> theLines) {
        lines = theLines;
    }

    public static void main(String[] args) throws Exception {
        ReadmeTest test = new ReadmeTest(Files.readAllLines(Path.of("README.md")));
        test.examples();
        test.table();
        test.names();
        Check.end();
    }

    private void examples() throws Exception {
        List<String> answers = run(program());
        Check.due("examples: how many answers", String.valueOf(due.size()), String.valueOf(answers.size()));
        for (int i = 0; i < due.size() && i < answers.size(); i++) {
            Check.due("example " + calls.get(i), due.get(i), answers.get(i));
        }
        Check.due("calls that the examples show", publicMethods().toString(), shown.toString());
    }

    /** The examples as one method that gathers the answers; each example is a block with an object of its own. */
    private String program() {
        StringBuilder source = new StringBuilder("public final class ReadmeRun {\n"
                + "  public static java.util.List<String> answers() {\n"
                + "    java.util.List<String> answers = new java.util.ArrayList<>();\n");
        boolean inside = false;
        for (String line : lines) {
            if (!inside && line.equals("```java")) {
                inside = true;
                source.append("    {\n");
            } else if (inside && line.equals("```")) {
                inside = false;
                source.append("    }\n");
            } else if (inside) {
                source.append(statement(line)).append('\n');
            }
        }
        return source.append("    return answers;\n  }\n}\n").toString();
    }

    private String statement(String line) {
        if (line.isBlank() || line.equals(OPENING)) {
            return line;
        }
        Matcher parts = STATEMENT.matcher(line);
        if (!parts.matches()) {
            Check.due("a line of an example", "a call of x", line);
            return "";
        }
        String name = parts.group(3);
        shown.add(name);
        Matcher answer = ANSWER.matcher(parts.group(5) == null ? "" : parts.group(5));
        if (!answer.matches()) {
            Check.isTrue("what it answers stands behind " + line, answersNothing(name));
            return line;
        }
        calls.add(parts.group(2));
        due.add(answer.group(1));
        return gathered(parts.group(1), parts.group(2), answersNothing(name));
    }

    private static String gathered(String variable, String call, boolean answersNothing) {
        if (variable != null) {
            return "int " + variable + " = " + call + "; answers.add(String.valueOf(" + variable + "));";
        }
        String deed = answersNothing ? call + "; answers.add(\"nothing\");" : "answers.add(String.valueOf(" + call + "));";
        return "try { " + deed + " } catch (RuntimeException e) {"
                + " answers.add(\"throws \" + e.getClass().getSimpleName()); }";
    }

    private static List<String> run(String source) throws Exception {
        Path directory = Files.createTempDirectory("readme");
        try {
            Path file = Files.writeString(directory.resolve("ReadmeRun.java"), source);
            int code = ToolProvider.getSystemJavaCompiler().run(null, null, null, "--release", "17",
                    "-cp", System.getProperty("java.class.path"), "-d", directory.toString(), file.toString());
            Check.due("the examples compile", "0", String.valueOf(code));
            return code == 0 ? answersOf(directory) : List.of();
        } finally {
            remove(directory);
        }
    }

    private static List<String> answersOf(Path directory) throws Exception {
        try (URLClassLoader loader = new URLClassLoader(new URL[] {directory.toUri().toURL()})) {
            List<String> answers = new ArrayList<>();
            for (Object answer : (List<?>) loader.loadClass("ReadmeRun").getMethod("answers").invoke(null)) {
                answers.add((String) answer);
            }
            return answers;
        }
    }

    private static void remove(Path directory) throws IOException {
        try (Stream<Path> files = Files.list(directory)) {
            for (Path file : files.toList()) {
                Files.delete(file);
            }
        }
        Files.delete(directory);
    }

    private void table() {
        TreeSet<String> told = new TreeSet<>();
        for (String line : lines) {
            Matcher row = ROW.matcher(line);
            if (row.matches()) {
                int parameters = row.group(2).isEmpty() ? 0 : row.group(2).split(",").length;
                told.add(row.group(1) + "/" + parameters + " " + row.group(3).strip());
            }
        }
        TreeSet<String> are = new TreeSet<>(List.of("SafeControl/0 "));
        for (Method method : SafeControl.class.getDeclaredMethods()) {
            if (Modifier.isPublic(method.getModifiers())) {
                List<String> thrown = Arrays.stream(method.getExceptionTypes()).map(Class::getSimpleName).toList();
                are.add(method.getName() + "/" + method.getParameterCount() + " " + String.join(", ", thrown));
            }
        }
        Check.due("the table's calls with what they throw", are.toString(), told.toString());
    }

    private void names() throws IOException {
        String text = String.join("\n", lines);
        Check.isTrue("README.md says how to run the tests", text.contains("\n    .ci/run\n"));
        try (Stream<Path> files = Files.list(Path.of("src/test/java"))) {
            for (Path file : files.toList()) {
                String name = file.getFileName().toString().replace(".java", "");
                Check.isTrue("README.md names " + name, !name.endsWith("Test") || text.contains("`" + name + "`"));
            }
        }
    }

    private static TreeSet<String> publicMethods() {
        TreeSet<String> names = new TreeSet<>();
        for (Method method : SafeControl.class.getDeclaredMethods()) {
            if (Modifier.isPublic(method.getModifiers())) {
                names.add(method.getName());
            }
        }
        return names;
    }

    private static boolean answersNothing(String name) {
        for (Method method : SafeControl.class.getDeclaredMethods()) {
            if (method.getName().equals(name) && method.getReturnType() != void.class) {
                return false;
            }
        }
        return true;
    }
}
