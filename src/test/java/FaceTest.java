import java.io.IOException;
import java.lang.reflect.Constructor;
import java.lang.reflect.Field;
import java.lang.reflect.Member;
import java.lang.reflect.Method;
import java.lang.reflect.Modifier;
import java.nio.file.Files;
import java.nio.file.Path;
import java.util.ArrayList;
import java.util.LinkedHashMap;
import java.util.List;
import java.util.Map;
import java.util.TreeSet;
import java.util.regex.Matcher;
import java.util.regex.Pattern;

/** The public face of the document, and what LANGUAGE.md says of the members of the classes. */
final class FaceTest {
    private static final Path FILE = Path.of("src/main/java/HillContest.java");
    private static final String I = " throws IndexOutOfBoundsException";
    private static final String[] FACE = {
        "int addPlayer(int) throws IllegalArgumentException, IllegalStateException",
        "int drop(int, int, int)" + I
                + ", IllegalArgumentException, IllegalStateException, UnsupportedOperationException",
        "int pile(int, int)" + I + ", IllegalArgumentException, IllegalStateException",
        "int take(int, int)" + I + ", NoSuchElementException, UnsupportedOperationException",
        "int skip()",
        "int playerCount()",
        "int hand(int)" + I,
        "int rest(int)" + I,
        "int setSlope(int) throws IllegalArgumentException",
        "boolean setBorder(boolean)",
        "int criticalSlope()",
        "boolean isBorderOpen()",
        "int height(int)" + I,
        "int owner(int)" + I + ", NoSuchElementException",
        "int steepness(int)" + I,
        "int lowestNeighbour(int)" + I,
        "int stonesOnHill()",
        "int stonesByLevels()",
        "int highestCell()",
        "int topplesIf(int, int)" + I + ", IllegalArgumentException",
        "int topplesIfByScan(int, int)" + I + ", IllegalArgumentException",
        "boolean isPeak(int)" + I,
        "int peakCount()",
        "int peakAt(int) throws NoSuchElementException",
        "int crowns(int)" + I,
        "int score(int)" + I,
        "int playerAtRank(int) throws NoSuchElementException",
        "float crownShare(int)" + I + ", ArithmeticException",
        "int toppleTotal()",
        "int avalancheCount()",
        "int largestAvalanche()",
        "int placedTotal()",
        "int lostTotal()",
        "int takenTotal()",
        "int append(char) throws IllegalArgumentException, IllegalStateException",
        "int run() throws IllegalArgumentException, IllegalStateException",
        "int errorPosition() throws NoSuchElementException",
        "int failedCommand() throws NoSuchElementException",
        "int describeRow(int)" + I,
        "char lineAt(int)" + I,
        "double meanAvalanche() throws ArithmeticException",
        "boolean isConsistent()",
        "int undo() throws IllegalStateException",
        "int save()",
        "int restore() throws IllegalStateException",
    };

    public static void main(String[] args) throws IOException {
        face();
        if (Document.isHere()) {
            likeTheDocument(Files.readString(FILE));
        }
        noOtherMembers();
        for (Class<?> inside : HillContest.class.getDeclaredClasses()) {
            insideClass(inside);
        }
        Check.yes("rule 11: at most twelve classes", HillContest.class.getDeclaredClasses().length < 12);
        Check.end();
    }

    private static void face() {
        Check.same("the class", Modifier.toString(HillContest.class.getModifiers()), "public final");
        Check.same("its superclass", HillContest.class.getSuperclass(), Object.class);
        Check.same("its interfaces", HillContest.class.getInterfaces().length, 0);
        TreeSet<String> found = new TreeSet<>();
        for (Method method : HillContest.class.getDeclaredMethods()) {
            if (Modifier.isPublic(method.getModifiers())) {
                Check.same("modifiers of " + method, Modifier.toString(method.getModifiers()), "public");
                found.add(tell(method));
            }
        }
        Check.same("the public methods", found, new TreeSet<>(List.of(FACE)));
        Constructor<?>[] constructors = HillContest.class.getDeclaredConstructors();
        Check.same("one constructor", constructors.length, 1);
        Check.same("without parameters", constructors[0].getParameterCount(), 0);
        Check.same("its modifiers", Modifier.toString(constructors[0].getModifiers()), "public");
    }

    /** The words themselves, so that the parameters' names and the order of all are compared too. */
    private static void likeTheDocument(String program) {
        List<String> face = Document.face();
        face.replaceAll(line -> line.replaceAll("( \\{|;)$", ""));
        List<String> declared = declarations(program);
        Check.same("the face", declared, face);
        Check.same("its calls", declared.size(), FACE.length + 3);
        Check.yes("promise 1 is the constructor", Document.promise(1)[1].equals("HillContest()"));
        for (int number = 2; number <= Document.PROMISES; number++) {
            String[] promise = Document.promise(number);
            Check.yes(promise[0] + " is declared", declared.contains("public " + promise[1]));
            Check.yes(promise[0] + " is its name", promise[1].contains(" " + promise[0] + "("));
        }
        Check.same("what the interface says ahead of the calls", groups(program), Document.groups());
    }

    private static List<String> declarations(String program) {
        List<String> found = new ArrayList<>();
        Matcher line = Pattern.compile("(?m)^(import [^;]*|(    )?public [^{;]*)[;{]").matcher(program);
        while (line.find()) {
            found.add(line.group(1).strip().replaceAll("\\s+", " "));
        }
        return found;
    }

    private static Map<String, String> groups(String program) {
        Map<String, String> groups = new LinkedHashMap<>();
        String group = "none";
        Matcher line = Pattern.compile("(?m)^    (// ---- (.*)|public [^(]* (\\w+)\\()").matcher(program);
        while (line.find()) {
            if (line.group(2) != null) {
                group = line.group(2);
            } else {
                groups.put(line.group(3), group);
            }
        }
        return groups;
    }

    private static String tell(Method method) {
        String text = method.getReturnType().getSimpleName() + " " + method.getName()
                + "(" + names(method.getParameterTypes()) + ")";
        Class<?>[] exceptions = method.getExceptionTypes();
        return exceptions.length == 0 ? text : text + " throws " + names(exceptions);
    }

    private static String names(Class<?>[] classes) {
        List<String> names = new ArrayList<>();
        for (Class<?> each : classes) {
            names.add(each.getSimpleName());
        }
        return String.join(", ", names);
    }

    private static void noOtherMembers() {
        TreeSet<String> publicNames = new TreeSet<>();
        TreeSet<String> privateNames = new TreeSet<>();
        for (Method method : HillContest.class.getDeclaredMethods()) {
            boolean isPublic = Modifier.isPublic(method.getModifiers());
            Check.yes("rule 1: " + method, isPublic || Modifier.isPrivate(method.getModifiers()));
            (isPublic ? publicNames : privateNames).add(method.getName());
        }
        privateNames.retainAll(publicNames);
        Check.same("rule 1: private methods with a public name", privateNames, new TreeSet<>());
        for (Field field : HillContest.class.getDeclaredFields()) {
            Check.yes("rule 1: " + field, Modifier.isPrivate(field.getModifiers()));
        }
        members(HillContest.class);
    }

    private static void insideClass(Class<?> inside) {
        Check.no("rule 1: " + inside, isOpenToAll(inside.getModifiers()));
        members(inside);
    }

    private static boolean isOpenToAll(int modifiers) {
        return Modifier.isPublic(modifiers) || Modifier.isProtected(modifiers);
    }

    private static void members(Class<?> each) {
        int fields = 0;
        for (Field field : each.getDeclaredFields()) {
            if (Modifier.isStatic(field.getModifiers())) {
                Check.yes("rule 5: " + field, isConstant(field));
            } else {
                fields++;
            }
        }
        Check.yes("rule 11: fields of " + each, fields <= 20);
        for (Method method : each.getDeclaredMethods()) {
            Check.yes("rule 11: " + method, method.getParameterCount() <= 7);
        }
    }

    private static boolean isConstant(Member field) {
        return field.isSynthetic() || Modifier.isFinal(field.getModifiers());
    }
}
