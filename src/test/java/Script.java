import java.lang.reflect.InvocationTargetException;
import java.lang.reflect.Method;
import java.util.ArrayList;
import java.util.List;

/** A run of calls on a new object, each told as a text, with the answer that is due. */
final class Script {
    /** The calls that are told the number of a query, or of a table, at #. */
    static final List<String> QUERY_CALLS = List.of("addAtom # 0 0 1 0", "clearQuery #", "setOrder # 123", "clearIdle # 0",
        "atomCount #", "answers #", "answerAt # 0 0", "seek # 0 0 0 0", "leaps #", "groups # 0", "groupSize # 0 0",
        "idleRows # 0", "isTree #", "cover #", "bound #");
    static final List<String> TABLE_CALLS = List.of("addFact # 0 0 0", "removeFact # 0 0 0", "addAtom 0 # 0 0 0",
        "addRule # 0 0 0", "addRuleAtom 0 # 0 0 0 false", "columns #", "factCount #", "rowCount #", "isFact # 0 0 0",
        "reasons # 0 0 0", "rowAt # 0 0", "firstFrom # 0 0 0", "values # 0", "lower # 1", "layerOf #");

    private static int wrong = 0;
    private static int calls = 0;

    private final String name;
    private final LeapTables tables = new LeapTables();
    private final List<String> done = new ArrayList<>();

    private Script(String name) {
        this.name = name;
    }

    /** A run for a promise, told by its number and a few words. */
    static Script promise(String name, String... lines) {
        return new Script("promise " + name).says(lines);
    }

    /** A run for a sentence: a part of the document, "section 1" or "promise 3", and words of it (// between two pieces). */
    static Script sentence(String part, String words, String... lines) {
        if (!Document.tell(part, words)) {
            blame(part + " does not say: " + words);
        }
        return new Script(part + ", " + words).says(lines);
    }

    /**
     * A line is a call and its answer, "addFact 0 5 5 0 = 7", or a short name of what it throws, "columns 9 = INDEX".
     * "columns {-1 MAX} = INDEX" is a line for each of the words between the braces.
     */
    Script says(String... lines) {
        for (String each : lines) {
            for (String line : spread(each)) {
                String[] sides = line.split(" = ");
                String got = answer(tables, sides[0].split(" "));
                done.add(sides[0]);
                calls++;
                if (!got.equals(whole(sides[1]))) {
                    blame(name + ": " + sides[0] + " answered " + got + ", due is " + whole(sides[1]));
                }
            }
        }
        if (done.size() > 512) {
            throw new Error(name + ": the document tells nothing behind 512 calls");
        }
        return this;
    }

    /** Calls that are refused; behind each of them all that can be read is as it was. */
    Script refuses(String... lines) {
        for (String each : lines) {
            for (String line : spread(each)) {
                needsSame(line.split(" = ")[0], done, List.of(line.split(" = ")[0]));
                says(line);
            }
        }
        return this;
    }

    /** Changes, each of them undone again; behind that all that can be read is as it was. */
    Script undoes(String... changes) {
        for (String change : changes) {
            LeapTables object = new LeapTables();
            done.forEach(call -> answer(object, call.split(" ")));
            if (answer(object, change.split(" ")).endsWith("Exception")) {
                blame(name + ": " + change + " is refused");
            }
            needsSame(change + " and undo", done, List.of(change, "undo"));
        }
        return this;
    }

    private void needsSame(String told, List<String> before, List<String> more) {
        String unlike = Whole.unlike(Whole.look(before), Whole.look(joined(before, more)));
        if (!unlike.isEmpty()) {
            blame(name + ": without " + told + " and with it: " + unlike);
        }
    }

    private static List<String> joined(List<String> one, List<String> other) {
        List<String> both = new ArrayList<>(one);
        both.addAll(other);
        return both;
    }

    private static List<String> spread(String line) {
        int from = line.indexOf('{');
        int end = line.indexOf('}');
        if (from < 0) {
            return List.of(line.replace("MAX", "2147483647").replace("MIN", "-2147483648"));
        }
        List<String> lines = new ArrayList<>();
        for (String word : line.substring(from + 1, end).split(" ")) {
            lines.addAll(spread(line.substring(0, from) + word + line.substring(end + 1)));
        }
        return lines;
    }

    private static String whole(String due) {
        switch (due) {
            case "INDEX":
                return "IndexOutOfBoundsException";
            case "ARGUMENT":
                return "IllegalArgumentException";
            case "STATE":
                return "IllegalStateException";
            case "NOSUCH":
                return "NoSuchElementException";
            default:
                return due;
        }
    }

    /** Calls a method of any object by its name; tells its answer, or the name of what it throws. */
    static String answer(Object object, String... words) {
        Method method = null;
        for (Method each : object.getClass().getMethods()) {
            if (each.getName().equals(words[0]) && each.getParameterCount() == words.length - 1) {
                method = each;
            }
        }
        if (method == null) {
            throw new Error("no such call: " + String.join(" ", words));
        }
        Object[] values = new Object[words.length - 1];
        for (int i = 0; i < values.length; i++) {
            boolean isTruth = method.getParameterTypes()[i] == boolean.class;
            values[i] = isTruth ? (Object) Boolean.valueOf(words[i + 1]) : (Object) Integer.valueOf(words[i + 1]);
        }
        try {
            method.setAccessible(true);
            return String.valueOf(method.invoke(object, values));
        } catch (InvocationTargetException e) {
            return e.getCause().getClass().getSimpleName();
        } catch (IllegalAccessException e) {
            throw new Error(e);
        }
    }

    private static void blame(String what) {
        wrong++;
        System.out.println(what);
    }

    /** Needs each word of these parts of the document to be told by a test, and ends. */
    static void endOf(String kind, int first, int last) {
        for (int number = first; number <= last; number++) {
            for (String piece : Document.untold(kind + " " + number)) {
                blame(kind + " " + number + ": no test tells: " + piece);
            }
        }
        end();
    }

    /** Ends the program with exit code 1 if an answer was wrong. */
    static void end() {
        System.out.println(calls + " calls, " + wrong + " answers not as due");
        if (wrong != 0) {
            System.exit(1);
        }
    }
}
