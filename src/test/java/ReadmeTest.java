import java.io.IOException;
import java.lang.reflect.Method;
import java.lang.reflect.Modifier;
import java.net.URL;
import java.net.URLClassLoader;
import java.nio.file.Files;
import java.nio.file.Path;
import java.util.ArrayList;
import java.util.List;
import java.util.regex.Matcher;
import java.util.regex.Pattern;
import java.util.stream.Stream;
import javax.tools.ToolProvider;

/**
 * The example of README.md is compiled and run as it stands there: each call must answer what
 * its comment begins with. Is run from the project's directory.
 */
public final class ReadmeTest {
    private static final Path README = Path.of("README.md");
    private static final Pattern ANSWERED =
            Pattern.compile("\\s*(hall\\.\\w+\\(.*\\));\\s*// (-?\\d+|throws \\w+)\\b.*");

    private static List<String> example() throws IOException {
        List<String> lines = new ArrayList<>();
        boolean inside = false;
        for (String line : Files.readAllLines(README)) {
            if (line.startsWith("```")) {
                inside = line.equals("```java");
            } else if (inside) {
                lines.add(line);
            }
        }
        return lines;
    }

    /** The example as a class whose method run() tells how many answers are wrong. */
    private static String source(List<String> example) {
        StringBuilder text = new StringBuilder("public class Example {\n"
                + "interface Call { long make(); }\n"
                + "static int due(String call, String want, Call made) {\n"
                + "String got;\n"
                + "try { got = Long.toString(made.make()); }\n"
                + "catch (RuntimeException e) { got = \"throws \" + e.getClass().getSimpleName(); }\n"
                + "if (got.equals(want)) { return 0; }\n"
                + "System.out.println(call + \" answered \" + got + \", README.md says \" + want);\n"
                + "return 1; }\n"
                + "public static int run() {\nint wrong = 0;\n");
        for (String line : example) {
            Matcher answered = ANSWERED.matcher(line);
            if (answered.matches()) {
                String call = answered.group(1);
                text.append("wrong += due(\"" + call + "\", \"" + answered.group(2) + "\", () -> " + call + ");\n");
            } else {
                text.append(line).append('\n');
            }
        }
        return text.append("return wrong;\n}\n}\n").toString();
    }

    private static int run(String source) throws Exception {
        Path work = Files.createTempDirectory("readme");
        try {
            Path file = Files.writeString(work.resolve("Example.java"), source);
            int compiled = ToolProvider.getSystemJavaCompiler().run(null, null, null, "-cp",
                    System.getProperty("java.class.path"), "-d", work.toString(), file.toString());
            if (compiled != 0) {
                System.out.println("the example does not compile");
                return 1;
            }
            try (URLClassLoader loader = new URLClassLoader(new URL[] {work.toUri().toURL()})) {
                return (int) loader.loadClass("Example").getMethod("run").invoke(null);
            }
        } finally {
            remove(work);
        }
    }

    private static void remove(Path directory) throws IOException {
        try (Stream<Path> files = Files.list(directory)) {
            for (Path file : files.toList()) {
                Files.delete(file);
            }
        }
        Files.delete(directory);
    }

    /** How many calls of the face have no line with an answer in the example. */
    private static int missingCalls(List<String> example) {
        int missing = 0;
        for (Method method : ColumnHall.class.getDeclaredMethods()) {
            String start = "hall." + method.getName() + "(";
            boolean shown = example.stream()
                    .anyMatch(line -> line.startsWith(start) && ANSWERED.matcher(line).matches());
            if (Modifier.isPublic(method.getModifiers()) && !shown) {
                System.out.println(method.getName() + " is not shown in README.md");
                missing++;
            }
        }
        return missing;
    }

    public static void main(String[] args) throws Exception {
        List<String> example = example();
        int wrong = missingCalls(example) + run(source(example));
        System.out.println(wrong == 0 ? "README.md tells what the calls answer" : wrong + " faults");
        if (wrong != 0) {
            System.exit(1);
        }
    }
}
