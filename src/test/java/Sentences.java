import java.io.IOException;
import java.lang.reflect.InvocationTargetException;
import java.lang.reflect.Method;
import java.nio.file.Files;
import java.nio.file.Path;
import java.util.ArrayList;
import java.util.Comparator;
import java.util.LinkedHashMap;
import java.util.List;
import java.util.Map;
import java.util.regex.Matcher;
import java.util.regex.Pattern;

/** Runs the tests that stand for sentences of the document, and knows what the document says where. */
final class Sentences {
    private static final Path DOCUMENT = Path.of("../shared/DOC.md");

    private Sentences() {
    }

    /** Runs each test of a class by itself, and ends with exit code 1 if one fails. */
    static void run(Class<?> tests) {
        int passed = 0;
        int failed = 0;
        for (Method test : testsOf(tests)) {
            int before = Checks.wrong();
            call(test);
            if (Checks.wrong() == before) {
                passed++;
            } else {
                failed++;
                Sentence sentence = test.getAnnotation(Sentence.class);
                System.out.println("  " + test.getName() + " stands for " + sentence.of() + ": " + sentence.says());
            }
        }
        System.out.println(tests.getName() + ": " + passed + " passed, " + failed + " failed");
        if (failed > 0 || passed == 0) {
            System.exit(1);
        }
    }

    private static void call(Method test) {
        try {
            test.setAccessible(true);
            test.invoke(null);
        } catch (IllegalAccessException | InvocationTargetException e) {
            Checks.due(test.getName(), "" + e.getCause(), "an end without an exception");
        }
    }

    static List<Method> testsOf(Class<?> tests) {
        List<Method> found = new ArrayList<>();
        for (Method method : tests.getDeclaredMethods()) {
            if (method.isAnnotationPresent(Sentence.class)) {
                found.add(method);
            }
        }
        found.sort(Comparator.comparing(Method::getName));
        return found;
    }

    static List<Sentence> sentencesOf(Class<?> tests) {
        List<Sentence> found = new ArrayList<>();
        for (Method test : testsOf(tests)) {
            found.add(test.getAnnotation(Sentence.class));
        }
        return found;
    }

    /** What the document says at each of its places, with single spaces. */
    static Map<String, String> document() throws IOException {
        String text = Files.readString(DOCUMENT);
        Map<String, String> places = new LinkedHashMap<>();
        Matcher promises = Pattern.compile("(?ms)^## (Promise \\d+): (.*?)(?=^## )").matcher(text);
        while (promises.find()) {
            places.put(promises.group(1), folded(promises.group(2)));
        }
        String terms = text.substring(text.indexOf("\n## Terms\n") + 10, text.indexOf("\n## Promise 1:"));
        Matcher headings = Pattern.compile("(?s)(?:<p>([^.]*)\\.|^)(.*?)(?=<p>|\\z)").matcher(terms);
        while (headings.find()) {
            String heading = headings.group(1);
            places.put(heading == null ? "Terms" : folded(heading), folded(headings.group(2)));
        }
        return places;
    }

    static String folded(String text) {
        return text.replaceAll("\\s+", " ").trim();
    }
}
