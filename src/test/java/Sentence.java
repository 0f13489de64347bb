import java.io.IOException;
import java.io.UncheckedIOException;
import java.nio.file.Files;
import java.nio.file.Path;
import java.util.ArrayList;
import java.util.LinkedHashMap;
import java.util.LinkedHashSet;
import java.util.List;
import java.util.Map;
import java.util.Set;
import java.util.regex.Matcher;
import java.util.regex.Pattern;

/**
 * Tests by the sentences of DOC.md. A test quotes the sentence that it stands for, and at the end
 * each sentence of the terms, each row with bounds and each row of an exception must have a test.
 */
final class Sentence {
    private static final Path DOCUMENT = Path.of("../shared/DOC.md");
    private static final List<String> TERMS = List.of(
            "The hill", "Neighbours", "Topples", "Rest", "Peaks", "Commands", "Changes", "Exceptions");
    private static final Pattern BOUNDS = Pattern.compile("\\d+ to \\d+|from 0");

    /** The words of each section, and which of its sentences have a test. */
    private static final Map<String, String> sections = new LinkedHashMap<>();
    private static final Map<String, Set<String>> tested = new LinkedHashMap<>();

    private Sentence() {}

    static void holds(String section, String sentence, Runnable test) {
        if (!tested.computeIfAbsent(section, s -> new LinkedHashSet<>()).add(sentence)) {
            throw new AssertionError("two tests for: " + sentence);
        }
        Check.about(section + ", \"" + sentence + "\": ");
        int before = Check.countDone();
        test.run();
        Check.yes("asks something", Check.countDone() > before);
        Check.about("");
    }

    /** Where the document is not at hand, its words can't be compared; the tests have run all the same. */
    static void eachHasATest() {
        if (!Files.exists(DOCUMENT)) {
            System.out.println(DOCUMENT + " is not here: no sentence was compared with it");
            return;
        }
        read();
        tested.forEach((section, sentences) -> {
            for (String sentence : sentences) {
                boolean stands = sections.getOrDefault(section, "").contains(sentence);
                Check.yes(section + " says: " + sentence, stands);
            }
        });
        for (String term : TERMS) {
            haveTests(term, sentencesOf(term));
        }
        for (int promise = 1; promise <= 46; promise++) {
            haveTests("Promise " + promise, rowsOf("Promise " + promise));
        }
    }

    private static void haveTests(String section, List<String> sentences) {
        Set<String> found = tested.getOrDefault(section, Set.of());
        for (String sentence : sentences) {
            Check.yes(section + " has a test for: " + sentence, found.contains(sentence));
        }
    }

    private static void read() {
        String all;
        try {
            all = Files.readString(DOCUMENT);
        } catch (IOException e) {
            throw new UncheckedIOException(e);
        }
        for (int i = 0; i < TERMS.size(); i++) {
            String end = i + 1 < TERMS.size() ? TERMS.get(i + 1) + "\\. " : "Ahead of the calls";
            put(TERMS.get(i), "\n" + TERMS.get(i) + "\\. (.*?)\n" + end, all);
        }
        for (int promise = 1; promise <= 46; promise++) {
            put("Promise " + promise, "\n## Promise " + promise + ":(.*?)\n## ", all);
        }
    }

    private static void put(String section, String pattern, String all) {
        Matcher found = Pattern.compile(pattern, Pattern.DOTALL).matcher(all);
        Check.yes("the document has the section " + section, found.find());
        sections.put(section, found.group(1));
    }

    /** The full stop or colon at the end is not part of a sentence, nor is the form of the commands. */
    private static List<String> sentencesOf(String term) {
        String words = sections.get(term).replaceAll("(?s):\\s*```.*?```\\s*", ". ");
        return List.of(words.strip().replaceAll("\\.$", "").split("\\. "));
    }

    private static List<String> rowsOf(String promise) {
        List<String> rows = new ArrayList<>();
        for (String row : sections.get(promise).split("\n")) {
            if (row.startsWith("Throws ")) {
                rows.add(row);
            } else if (row.startsWith("- ") && BOUNDS.matcher(row).find()) {
                rows.add(row.substring(2));
            }
        }
        return rows;
    }
}
