import java.util.ArrayList;
import java.util.LinkedHashMap;
import java.util.LinkedHashSet;
import java.util.List;
import java.util.Map;
import java.util.Set;
import java.util.regex.Pattern;

/**
 * Tests by the sentences of DOC.md. A test quotes the sentence that it stands for, and at the end
 * each sentence of the terms, each row with bounds and each row of an exception must have a test.
 */
final class Sentence {
    private static final Pattern BOUNDS = Pattern.compile("\\d+ to \\d+|from 0");

    /** Which sentences of each section have a test. */
    private static final Map<String, Set<String>> tested = new LinkedHashMap<>();

    private Sentence() {}

    static void holds(String section, String sentence, Runnable test) {
        if (!tested.computeIfAbsent(section, s -> new LinkedHashSet<>()).add(sentence)) {
            throw new AssertionError("two tests for: " + sentence);
        }
        Check.asks(section + ", \"" + sentence + "\": ", test);
    }

    static void eachHasATest() {
        if (!Document.isHere()) {
            return;
        }
        Map<String, String> sections = Document.sections();
        tested.forEach((section, sentences) -> {
            for (String sentence : sentences) {
                boolean stands = sections.getOrDefault(section, "").contains(sentence);
                Check.yes(section + " says: " + sentence, stands);
            }
        });
        for (String term : Document.TERMS) {
            haveTests(term, sentencesOf(sections.get(term)));
        }
        for (int number = 1; number <= Document.PROMISES; number++) {
            haveTests("Promise " + number, rowsOf(sections.get("Promise " + number)));
        }
    }

    private static void haveTests(String section, List<String> sentences) {
        Set<String> found = tested.getOrDefault(section, Set.of());
        for (String sentence : sentences) {
            Check.yes(section + " has a test for: " + sentence, found.contains(sentence));
        }
    }

    /** The full stop or colon at the end is not part of a sentence, nor is the form of the commands. */
    private static List<String> sentencesOf(String term) {
        String words = term.replaceAll("(?s):\\s*```.*?```\\s*", ". ");
        return List.of(words.strip().replaceAll("\\.$", "").split("\\. "));
    }

    private static List<String> rowsOf(String promise) {
        List<String> rows = new ArrayList<>();
        for (String row : promise.split("\n")) {
            if (row.startsWith("Throws ")) {
                rows.add(row);
            } else if (row.startsWith("- ") && BOUNDS.matcher(row).find()) {
                rows.add(row.substring(2));
            }
        }
        return rows;
    }
}
