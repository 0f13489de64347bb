import java.io.IOException;
import java.nio.file.Files;
import java.nio.file.Path;
import java.util.List;
import java.util.TreeSet;
import java.util.regex.Matcher;
import java.util.regex.Pattern;

/** What can be read off the program's text of the rules of LANGUAGE.md. */
final class LanguageTest {
    private static final Path FILE = Path.of("src/main/java/HillContest.java");
    private static final List<String> NO_WORDS = List.of(
            "package", "try", "catch", "finally", "synchronized", "assert", "volatile", "native",
            "protected", "var", "yield", "Object", "System.out", "Math.random", "Thread",
            "equals", "hashCode", "toString", "getMessage", "valueOf", "format");
    private static final List<String> NO_SIGNS = List.of("->", "::", " @", "...");
    private static final TreeSet<String> EXCEPTIONS = new TreeSet<>(List.of(
            "IllegalStateException", "IllegalArgumentException", "IndexOutOfBoundsException",
            "ArithmeticException", "UnsupportedOperationException", "NoSuchElementException"));

    public static void main(String[] args) throws IOException {
        String whole = Files.readString(FILE);
        String code = whole.replaceAll("(?s)/\\*.*?\\*/", "").replaceAll("//[^\n]*", "");
        String bare = code.replaceAll("\"[^\"\n]*\"", "\"\"");
        Check.yes("rule 4: signs 1 to 127 alone", whole.chars().allMatch(sign -> sign > 0 && sign < 128));
        Check.same("rule 4: imports", all("import [^;]*;", bare),
                List.of("import java.util.NoSuchElementException;"));
        for (String word : NO_WORDS) {
            Check.no("no " + word, Pattern.compile("\\b" + Pattern.quote(word) + "\\b").matcher(bare).find());
        }
        for (String sign : NO_SIGNS) {
            Check.no("no " + sign, bare.contains(sign));
        }
        throwStatements(bare);
        Check.no("rule 10: no texts joined by +", Pattern.compile("\"\" *\\+|\\+ *\"\"").matcher(bare).find());
        Check.no("rule 5: no static block", Pattern.compile("\\bstatic *\\{").matcher(bare).find());
        methodLengths(bare);
        madeOnce(bare);
        Check.end();
    }

    private static List<String> all(String pattern, String text) {
        return Pattern.compile(pattern).matcher(text).results().map(found -> found.group()).toList();
    }

    private static void throwStatements(String bare) {
        Matcher thrown = Pattern.compile("\\bthrow\\b([^;]*);").matcher(bare);
        while (thrown.find()) {
            Matcher made = Pattern.compile(" new (\\w+)\\((\"\")?\\)").matcher(thrown.group(1));
            Check.yes("rule 6: throw" + thrown.group(1), made.matches() && EXCEPTIONS.contains(made.group(1)));
        }
    }

    /** What a run makes is counted: all is made with the object, and no call makes more but an exception. */
    private static void madeOnce(String bare) {
        String besidesFields = bare.replaceAll("(?m)^ *private final [^;]*;", "").replaceAll("throw new", "");
        Check.same("rule 12: made in the constructors' loops", all("[^\n]*\\bnew\\b[^\n]*", besidesFields),
                List.of("            history[i] = new State();", "                commands[i] = new Command();"));
    }

    /** Methods of the inner classes are indented by eight blanks, the others by four. */
    private static void methodLengths(String bare) {
        Matcher method = Pattern.compile("(?m)^( {4}| {8})(?! )[^\n;=]*\\)[^\n;]* \\{\n(?s:.*?)\n\\1\\}").matcher(bare);
        int methods = 0;
        while (method.find()) {
            methods++;
            Check.yes("rule 11: " + method.group().lines().findFirst().orElse(""),
                    method.group().lines().count() <= 60);
        }
        Check.yes("rule 11: the methods were found", methods > 90);
    }
}
