import java.lang.reflect.InvocationTargetException;
import java.lang.reflect.Method;

/** A run of calls on a new object, each told as a text, with the answer that is due. */
final class Script {
    private static int wrong = 0;
    private static int calls = 0;

    private final String name;
    private final LeapTables tables = new LeapTables();

    private Script(String name) {
        this.name = name;
    }

    /** A run for a promise, told by its number and a few words. */
    static Script promise(String name, String... lines) {
        Script script = new Script("promise " + name);
        script.says(lines);
        return script;
    }

    /** A line is a call and its answer, "addFact 0 5 5 0 = 7", or a short name of what it throws, "columns 9 = INDEX". */
    void says(String... lines) {
        for (String line : lines) {
            String[] sides = line.split(" = ");
            String got = answer(tables, sides[0].split(" "));
            String due = whole(sides[1]);
            calls++;
            if (!got.equals(due)) {
                wrong++;
                System.out.println(name + ": " + sides[0] + " answered " + got + ", due is " + due);
            }
        }
    }

    private static String whole(String due) {
        switch (due) {
            case "INDEX":
                return "IndexOutOfBoundsException";
            case "ARGUMENT":
                return "IllegalArgumentException";
            case "STATE":
                return "IllegalStateException";
            case "NOSUCH":
                return "NoSuchElementException";
            default:
                return due;
        }
    }

    /** Calls a method of any object by its name; tells its answer, or the name of what it throws. */
    static String answer(Object object, String... words) {
        Method method = null;
        for (Method each : object.getClass().getMethods()) {
            if (each.getName().equals(words[0]) && each.getParameterCount() == words.length - 1) {
                method = each;
            }
        }
        if (method == null) {
            throw new Error("no such call: " + String.join(" ", words));
        }
        Object[] values = new Object[words.length - 1];
        for (int i = 0; i < values.length; i++) {
            boolean isTruth = method.getParameterTypes()[i] == boolean.class;
            values[i] = isTruth ? (Object) Boolean.valueOf(words[i + 1]) : (Object) Integer.valueOf(words[i + 1]);
        }
        try {
            method.setAccessible(true);
            return String.valueOf(method.invoke(object, values));
        } catch (InvocationTargetException e) {
            return e.getCause().getClass().getSimpleName();
        } catch (IllegalAccessException e) {
            throw new Error(e);
        }
    }

    /** Ends the program with exit code 1 if an answer was wrong. */
    static void end() {
        System.out.println(calls + " calls, " + wrong + " answers not as due");
        if (wrong != 0) {
            System.exit(1);
        }
    }
}
