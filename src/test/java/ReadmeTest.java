import java.io.File;
import java.lang.reflect.Method;
import java.lang.reflect.Modifier;
import java.nio.file.Files;
import java.nio.file.Path;
import java.util.List;
import java.util.TreeSet;
import java.util.regex.Matcher;
import java.util.regex.Pattern;

/** What README.md says is true: the answers of its example, the calls that throw, the files that it names. */
public final class ReadmeTest {
    private static final Pattern CALL = Pattern.compile("tables\\.(\\w+)\\((.*?)\\); +// (throws )?([-\\w]+)(:.*)?");
    private static final Pattern QUOTED = Pattern.compile("`([^`\n]+)`");
    private static final List<String> THROWN = List.of("IndexOutOfBoundsException", "IllegalArgumentException",
        "IllegalStateException", "NoSuchElementException");

    private static int wrong = 0;

    public static void main(String[] args) throws Exception {
        String page = Files.readString(Path.of("README.md"));
        checkExample(between(page, "```java\n", "```"));
        for (String thrown : THROWN) {
            checkThrown(thrown, between(page, "- `" + thrown + "`:", "\n- "));
        }
        checkFiles(page);
        System.out.println(wrong == 0 ? "README.md is true" : wrong + " faults");
        if (wrong != 0) {
            System.exit(1);
        }
        Script.end();
    }

    private static void need(boolean isSo, String what) {
        if (!isSo) {
            wrong++;
            System.out.println(what);
        }
    }

    private static String between(String page, String first, String last) {
        int from = page.indexOf(first) + first.length();
        need(from >= first.length(), "no " + first.trim());
        int end = page.indexOf(last, from);
        int blank = last.startsWith("\n") ? page.indexOf("\n\n", from) : -1;
        return page.substring(from, blank >= 0 && (end < 0 || blank < end) ? blank : end);
    }

    private static void checkExample(String example) {
        String[] lines = example.split("\n");
        need(lines[0].equals("LeapTables tables = new LeapTables();"), "the example makes an object first");
        Script script = Script.promise("README");
        for (int i = 1; i < lines.length; i++) {
            Matcher call = CALL.matcher(lines[i]);
            boolean isCall = call.matches();
            need(isCall, "no call with its answer: " + lines[i]);
            if (isCall) {
                script.says((call.group(1) + " " + call.group(2).replace(",", "")).trim() + " = " + call.group(4));
            }
        }
    }

    /** The calls that the text names throw it; or, if it tells of all calls, those that it names do not. */
    private static void checkThrown(String thrown, String text) {
        boolean areOthers = text.contains("All calls can throw it but");
        TreeSet<String> due = new TreeSet<>();
        TreeSet<String> named = new TreeSet<>();
        for (Method method : LeapTables.class.getDeclaredMethods()) {
            boolean isThrown = List.of(method.getExceptionTypes()).stream().anyMatch(type -> type.getSimpleName().equals(thrown));
            if (Modifier.isPublic(method.getModifiers()) && isThrown != areOthers) {
                due.add(method.getName());
            }
        }
        Matcher quoted = QUOTED.matcher(text);
        while (quoted.find()) {
            named.add(quoted.group(1));
        }
        need(named.equals(due), thrown + ": README.md names " + named + ", due are " + due);
    }

    private static void checkFiles(String page) {
        TreeSet<String> named = new TreeSet<>();
        Matcher quoted = QUOTED.matcher(page);
        while (quoted.find()) {
            String name = quoted.group(1);
            if (name.matches("[A-Z]\\w+\\.java")) {
                named.add(name);
            } else if (name.matches("[.\\w]+(/[.\\w]+)+")) {
                need(new File(name).exists(), "README.md names " + name + ", which is not there");
            }
        }
        TreeSet<String> due = new TreeSet<>(List.of(new File("src/test/java").list((folder, name) -> name.endsWith(".java"))));
        need(named.equals(due), "README.md names the tests " + named + ", there are " + due);
    }
}
