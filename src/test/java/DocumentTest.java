import java.io.IOException;
import java.util.ArrayList;
import java.util.List;
import java.util.Map;
import java.util.regex.Matcher;
import java.util.regex.Pattern;

/**
 * Each sentence for which a test stands is one of the document, at the place that the test names; and
 * each place of the document, and each exception that it tells, has a test.
 */
public final class DocumentTest extends Checks {
    private static final List<Class<?>> TESTS = List.of(TermsOfKernelsTest.class, TermsOfWritesTest.class,
        TermsOfLaunchesTest.class, PromisedCallsTest.class, RefusedCallsTest.class);

    public static void main(String[] args) throws IOException {
        Map<String, String> document = Sentences.document();
        List<Sentence> sentences = new ArrayList<>();
        for (Class<?> tests : TESTS) {
            sentences.addAll(Sentences.sentencesOf(tests));
        }
        due("places of the document", document.size() >= 38 + 15, true);
        for (Sentence sentence : sentences) {
            String place = document.getOrDefault(sentence.of(), "");
            due(sentence.of() + " says: " + sentence.says(), place.contains(sentence.says()), true);
        }
        for (Map.Entry<String, String> place : document.entrySet()) {
            due("a test for " + place.getKey(), isTold(sentences, place.getKey(), ""), true);
            Matcher ranges = Pattern.compile("`\\w+`: [^`]*?(\\d to \\d+|0 or 1|or -1)").matcher(place.getValue());
            while (ranges.find()) {
                due("a test for " + place.getKey() + ": " + ranges.group(), isTold(sentences, place.getKey(), ranges.group()),
                    true);
            }
            Matcher exceptions = Pattern.compile("Throws `\\w+` if .*?(?= Throws `|$)").matcher(place.getValue());
            while (exceptions.find()) {
                due("a test of a refused call for " + place.getKey() + ": " + exceptions.group(),
                    isTold(Sentences.sentencesOf(RefusedCallsTest.class), place.getKey(), exceptions.group()), true);
            }
        }
        end();
    }

    private static boolean isTold(List<Sentence> sentences, String place, String words) {
        return sentences.stream().anyMatch(s -> s.of().equals(place) && s.says().contains(words));
    }
}
