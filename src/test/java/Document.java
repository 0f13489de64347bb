import java.io.IOException;
import java.io.UncheckedIOException;
import java.nio.file.Files;
import java.nio.file.Path;
import java.util.ArrayList;
import java.util.LinkedHashMap;
import java.util.List;
import java.util.Map;
import java.util.regex.Matcher;
import java.util.regex.Pattern;

/** The words of DOC.md, as the tests quote them and compare the program's face with them. */
final class Document {
    static final int PROMISES = 46;
    static final List<String> TERMS = List.of(
            "The hill", "Neighbours", "Topples", "Rest", "Peaks", "Commands", "Changes", "Exceptions");

    private static final Path FILE = Path.of("../shared/DOC.md");
    private static final Map<String, String> sections = new LinkedHashMap<>();

    private Document() {}

    /** Where the document is not at hand, its words can't be compared; the tests run all the same. */
    static boolean isHere() {
        boolean isHere = Files.exists(FILE);
        if (!isHere) {
            System.out.println(FILE + " is not here: nothing was compared with it");
        }
        return isHere;
    }

    static String text() {
        try {
            return Files.readString(FILE);
        } catch (IOException e) {
            throw new UncheckedIOException(e);
        }
    }

    /** The words of each term and of each promise. */
    static Map<String, String> sections() {
        if (sections.isEmpty()) {
            readSections(text());
        }
        return sections;
    }

    private static void readSections(String all) {
        for (int i = 0; i < TERMS.size(); i++) {
            String end = i + 1 < TERMS.size() ? TERMS.get(i + 1) + "\\. " : "Ahead of the calls";
            sections.put(TERMS.get(i), find("\n" + TERMS.get(i) + "\\. (.*?)\n" + end, all));
        }
        for (int number = 1; number <= PROMISES; number++) {
            sections.put("Promise " + number, find("\n## Promise " + number + ":(.*?)\n## ", all));
        }
    }

    private static String find(String pattern, String all) {
        Matcher found = Pattern.compile(pattern, Pattern.DOTALL).matcher(all);
        Check.yes("the document has " + pattern.strip(), found.find());
        return found.group(1);
    }

    /** A promise by its parts: the name and the form of its call, what it does, what it returns. */
    static String[] promise(int number) {
        String section = sections().get("Promise " + number);
        Matcher parts = Pattern.compile("^ (.*)\n\n`([^`]*)`: (.*)\n").matcher(section);
        Check.yes("the form of the promise " + number, parts.find());
        Matcher returns = Pattern.compile("(?m)^Returns .*$").matcher(section.substring(parts.end()));
        return new String[] {
            parts.group(1), parts.group(2), parts.group(3), returns.find() ? returns.group() : ""
        };
    }

    /** The lines of the public face, from the import to the last call. */
    static List<String> face() {
        List<String> lines = new ArrayList<>();
        for (String line : find("\n```java\n(.*?)\n```\n", text()).split("\n")) {
            if (!line.isBlank() && !line.strip().equals("}")) {
                lines.add(line.strip());
            }
        }
        return lines;
    }

    /** For each call but the constructor the words that the interface says ahead of its group. */
    static Map<String, String> groups() {
        Map<String, String> groups = new LinkedHashMap<>();
        Matcher found = Pattern.compile("\nAhead of the calls (.*) the interface says: ---- (.*)\\.\n")
                .matcher(text());
        while (found.find()) {
            for (String call : found.group(1).split(", ")) {
                groups.put(call.replace("`", ""), found.group(2));
            }
        }
        return groups;
    }
}
