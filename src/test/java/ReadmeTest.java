import java.io.IOException;
import java.net.URL;
import java.net.URLClassLoader;
import java.nio.file.Files;
import java.nio.file.Path;
import java.util.ArrayList;
import java.util.List;
import java.util.regex.Matcher;
import java.util.regex.Pattern;
import javax.tools.ToolProvider;

/** The run of calls in README.md compiles, and each call answers what stands behind it. */
public final class ReadmeTest extends Checks {
    private static final Pattern LINE =
        Pattern.compile("mill\\.(\\w+)(\\(.*\\)); +// ('.'|throws \\w+|[-.\\d]+)(: .*)?");

    private static final List<String> calls = new ArrayList<>();
    private static final List<String> answers = new ArrayList<>();

    public static void main(String[] args) throws IOException, ReflectiveOperationException {
        String readme = Files.readString(Path.of("README.md"));
        Matcher block = Pattern.compile("(?s)```java\n(.*?)```").matcher(readme);
        due("a run of calls stands in README.md", block.find(), true);
        String[] lines = block.group(1).split("\n");
        due("first line", lines[0], "LaneMill mill = new LaneMill();");
        for (int i = 1; i < lines.length; i++) {
            take(lines[i]);
        }
        List<?> told = carryOut();
        due("answers", told.size(), calls.size());
        for (int i = 0; i < calls.size() && i < told.size(); i++) {
            due(calls.get(i), told.get(i), answers.get(i));
        }
        end();
    }

    private static void take(String line) {
        Matcher parts = LINE.matcher(line);
        due("a call with its answer: " + line, parts.matches(), true);
        calls.add("mill." + parts.group(1) + parts.group(2));
        answers.add(parts.group(3).replace("'", ""));
    }

    /** Compiles the calls as they stand there, and answers what each one does. */
    private static List<?> carryOut() throws IOException, ReflectiveOperationException {
        StringBuilder source = new StringBuilder("public final class ReadmeRun {\n"
            + "public static java.util.List<String> answers() {\n"
            + "java.util.List<String> told = new java.util.ArrayList<>();\nLaneMill mill = new LaneMill();\n");
        for (String call : calls) {
            source.append("try { told.add(\"\" + ").append(call)
                .append("); } catch (RuntimeException e) { told.add(\"throws \" + e.getClass().getSimpleName()); }\n");
        }
        Path directory = Files.createTempDirectory("readme");
        Path file = directory.resolve("ReadmeRun.java");
        Files.writeString(file, source.append("return told;\n}\n}\n"));
        int exit = ToolProvider.getSystemJavaCompiler().run(null, null, null,
            "-cp", System.getProperty("java.class.path"), "-d", directory.toString(), file.toString());
        due("javac", exit, 0);
        try (URLClassLoader loader = new URLClassLoader(new URL[] {directory.toUri().toURL()})) {
            return (List<?>) loader.loadClass("ReadmeRun").getMethod("answers").invoke(null);
        } finally {
            Files.deleteIfExists(directory.resolve("ReadmeRun.class"));
            Files.deleteIfExists(file);
            Files.deleteIfExists(directory);
        }
    }
}
