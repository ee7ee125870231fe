import java.lang.reflect.Constructor;
import java.lang.reflect.Field;
import java.lang.reflect.Method;
import java.lang.reflect.Modifier;
import java.nio.file.Files;
import java.nio.file.Path;
import java.util.ArrayList;
import java.util.Arrays;
import java.util.List;
import java.util.Set;
import java.util.TreeSet;
import java.util.regex.Matcher;
import java.util.regex.Pattern;

/** The public face is that of the document, and the source keeps to the rules of the language that a look can find. */
public final class FaceTest {
    private static final String I = "IndexOutOfBoundsException";
    private static final String A = "IllegalArgumentException";
    private static final String S = "IllegalStateException";
    private static final String N = "NoSuchElementException";

    private static final List<String> FACE = List.of(
        "int addTable(int) " + A + " " + S,
        "int addFact(int,int,int,int) " + I + " " + A + " " + S,
        "int removeFact(int,int,int,int) " + I + " " + A + " " + N,
        "int addAtom(int,int,int,int,int) " + I + " " + A + " " + S,
        "int clearQuery(int) " + I,
        "int setOrder(int,int) " + I + " " + A,
        "int clearIdle(int,int) " + I,
        "int addRule(int,int,int,int) " + I + " " + A + " " + S,
        "int addRuleAtom(int,int,int,int,int,boolean) " + I + " " + A + " " + S,
        "int dropRule(int) " + I,
        "int undo()",
        "int tableCount()",
        "int columns(int) " + I,
        "int factCount(int) " + I,
        "int rowCount(int) " + I,
        "boolean isFact(int,int,int,int) " + I + " " + A,
        "int reasons(int,int,int,int) " + I + " " + A,
        "int rowAt(int,int,int) " + I,
        "int firstFrom(int,int,int,int) " + I + " " + A + " " + N,
        "int values(int,int) " + I,
        "int lower(int,int) " + I + " " + A + " " + N,
        "int atomCount(int) " + I,
        "int answers(int) " + I,
        "int answerAt(int,int,int) " + I,
        "int seek(int,int,int,int,int) " + I + " " + A + " " + N,
        "int leaps(int) " + I,
        "int groups(int,int) " + I,
        "int groupSize(int,int,int) " + I + " " + A,
        "int idleRows(int,int) " + I,
        "boolean isTree(int) " + I,
        "int cover(int) " + I,
        "long bound(int) " + I,
        "int ruleCount()",
        "boolean isIdle(int) " + I,
        "int layerOf(int) " + I,
        "int rounds()",
        "int firings(int) " + I,
        "double meanReasons()",
        "float factShare()",
        "int errors()",
        "int checksum()");

    private static final List<String> RULED_OUT = List.of("catch", "finally", "synchronized", "assert ", "->", "::",
        ".equals(", "hashCode", "toString", "protected ", "Exact(", "System.out", "Random", "Thread", "package ", "+ \"", "\" +");

    private static final Path SOURCE = Path.of("src/main/java/LeapTables.java");

    /** Rule 4 lists functions of these classes and none of their constants, so Long.MAX_VALUE is outside it. */
    private static final Pattern OF_A_CLASS = Pattern.compile("\\b([A-Z][A-Za-z]*[a-z][A-Za-z]*)\\.(\\w+\\(?)");
    private static final Set<String> COUNTING = Set.of("compare(", "max(", "min(", "abs(", "bitCount(", "floorDiv(",
        "floorMod(");
    private static final Set<String> OF_ARRAYS = Set.of("copyOf(", "copyOfRange(", "fill(");

    private static final Pattern THROWN = Pattern.compile("throw new (IllegalState|IllegalArgument|IndexOutOfBounds|NoSuchElement)"
        + "Exception\\(\"[^\"]*\"\\);");

    private static int wrong = 0;

    public static void main(String[] args) throws Exception {
        checkFace();
        checkSizes();
        checkSource();
        checkLibrary();
        System.out.println(wrong == 0 ? "the face and the source are as told" : wrong + " faults");
        if (wrong != 0) {
            System.exit(1);
        }
    }

    private static void need(boolean isSo, String what) {
        if (!isSo) {
            wrong++;
            System.out.println(what);
        }
    }

    private static void checkFace() {
        Class<?> face = LeapTables.class;
        need(face.getModifiers() == (Modifier.PUBLIC | Modifier.FINAL), "the class is public and final");
        TreeSet<String> found = new TreeSet<>();
        TreeSet<String> names = new TreeSet<>();
        List<String> hidden = new ArrayList<>();
        for (Method method : face.getDeclaredMethods()) {
            if (Modifier.isPrivate(method.getModifiers())) {
                hidden.add(method.getName());
                continue;
            }
            need(method.getModifiers() == Modifier.PUBLIC, method + " is public and no more");
            found.add(told(method));
            names.add(method.getName());
        }
        TreeSet<String> due = new TreeSet<>(FACE);
        need(found.equals(due), "the methods are " + found + ", due are " + due);
        for (String name : hidden) {
            need(!names.contains(name), "the private method " + name + " bears the name of a public one");
        }
        for (Constructor<?> constructor : face.getDeclaredConstructors()) {
            need(Modifier.isPublic(constructor.getModifiers()) && constructor.getParameterCount() == 0
                && constructor.getExceptionTypes().length == 0, "the constructor is that of the document");
        }
        for (Field field : face.getDeclaredFields()) {
            need(Modifier.isPrivate(field.getModifiers()), field + " is private");
        }
        for (Class<?> inside : face.getDeclaredClasses()) {
            need(Modifier.isStatic(inside.getModifiers()) && !Modifier.isPublic(inside.getModifiers()), inside + " is static");
            for (Field field : inside.getDeclaredFields()) {
                boolean isFixed = !Modifier.isStatic(field.getModifiers()) || Modifier.isFinal(field.getModifiers());
                need(isFixed, field + " is static and not final");
            }
        }
    }

    private static String told(Method method) {
        StringBuilder text = new StringBuilder(method.getReturnType().getName() + " " + method.getName() + "(");
        text.append(String.join(",", Arrays.stream(method.getParameterTypes()).map(Class::getName).toList())).append(")");
        for (Class<?> thrown : method.getExceptionTypes()) {
            text.append(' ').append(thrown.getSimpleName());
        }
        return text.toString();
    }

    /** Rule 11, as far as it tells numbers. */
    private static void checkSizes() {
        List<Class<?>> all = new ArrayList<>(List.of(LeapTables.class.getDeclaredClasses()));
        all.add(LeapTables.class);
        need(all.size() <= 12, all.size() + " classes");
        for (Class<?> each : all) {
            long fields = Arrays.stream(each.getDeclaredFields())
                .filter(field -> !Modifier.isStatic(field.getModifiers())).count();
            need(fields <= 20, each + " has " + fields + " fields");
            for (Method method : each.getDeclaredMethods()) {
                need(method.getParameterCount() <= 7, method + " takes too many parameters");
            }
        }
    }

    private static boolean isComment(String code) {
        return code.startsWith("//") || code.startsWith("*") || code.startsWith("/*");
    }

    /** Rule 4: what is used of a class that is not one of the file's own. */
    private static void checkLibrary() throws Exception {
        Set<String> own = new TreeSet<>();
        for (Class<?> inside : LeapTables.class.getDeclaredClasses()) {
            own.add(inside.getSimpleName());
        }
        for (String line : Files.readAllLines(SOURCE)) {
            Matcher use = OF_A_CLASS.matcher(line);
            while (!isComment(line.trim()) && !line.startsWith("import ") && use.find()) {
                boolean isCounting = Set.of("Integer", "Long", "Math").contains(use.group(1)) && COUNTING.contains(use.group(2));
                boolean isOfArrays = use.group(1).equals("Arrays") && OF_ARRAYS.contains(use.group(2));
                need(own.contains(use.group(1)) || isCounting || isOfArrays, "rule 4 does not list " + use.group());
            }
        }
    }

    private static void checkSource() throws Exception {
        List<String> lines = Files.readAllLines(SOURCE);
        int number = 0;
        for (String line : lines) {
            number++;
            String code = line.trim();
            if (isComment(code)) {
                continue;
            }
            need(!code.startsWith("throw ") || THROWN.matcher(code).matches(),
                "line " + number + " throws what rule 6 does not list: " + code);
            for (String word : RULED_OUT) {
                need(!code.contains(word), "line " + number + " has " + word + ": " + code);
            }
            boolean isImport = code.startsWith("import ");
            need(!isImport || code.equals("import java.util.Arrays;") || code.equals("import java.util.NoSuchElementException;"),
                "line " + number + " imports more than it may: " + code);
            boolean isMade = code.contains("new ") && !code.startsWith("throw new ") && !code.startsWith("private final ");
            need(!isMade || code.startsWith("cells = ") || code.startsWith("queries[") || code.startsWith("bodies[")
                || code.startsWith("past["), "line " + number + " makes an object outside a constructor: " + code);
        }
    }
}
