import java.util.List;

/** Runs of mixed calls, right and wrong ones, on LeapTables and PlainTables; each pair of answers must be the same. */
public final class AgainstPlainTest {
    private static final int RUNS = 300;
    private static final int CALLS = 512;

    /**
     * T a table, R a row of it (F one that it often has), V variables of it, Q a query, A an atom of it, U a rule,
     * others: see number().
     */
    private static final List<String> CHANGES = List.of("addTable w", "addFact T R", "addFact T R", "addFact T R",
        "addFact T R", "removeFact T F", "addAtom Q T V", "addAtom Q T V", "clearQuery Q", "setOrder Q o",
        "clearIdle Q A", "addRule T V", "addRule T V", "addRuleAtom U T V b", "addRuleAtom U T V b",
        "addRuleAtom U T V b", "dropRule U", "undo");
    private static final List<String> GROWTH = List.of("addTable w", "addFact T R", "addFact T R", "addFact T R",
        "addFact T R", "addFact T R", "addFact T R", "addFact T R", "addAtom Q T V", "addRule T V", "addRuleAtom U T V b");
    private static final List<String> READS = List.of("tableCount", "columns T", "factCount T", "rowCount T",
        "isFact T F", "reasons T F", "reasons T F", "rowAt T r c", "rowAt T r c", "firstFrom T F", "values T c",
        "lower T l", "atomCount Q", "answers Q", "answerAt Q n v", "answerAt Q n v", "seek Q s s s s", "leaps Q",
        "leaps Q", "groups Q v", "groupSize Q v s", "idleRows Q A", "isTree Q", "isTree Q", "cover Q", "bound Q",
        "ruleCount", "isIdle U", "layerOf T", "rounds", "firings U", "meanReasons", "factShare", "errors", "checksum");

    private static long seed = 20261119L;

    public static void main(String[] args) {
        int wrong = 0;
        for (int run = 0; run < RUNS; run++) {
            wrong += compare(run) ? 0 : 1;
        }
        System.out.println(RUNS + " runs against the plain way, " + wrong + " with unlike answers");
        if (wrong != 0) {
            System.exit(1);
        }
    }

    private static boolean compare(int run) {
        LeapTables quick = new LeapTables();
        PlainTables plain = new PlainTables();
        int most = run % 5 == 0 ? 8 : 3 + next(4);
        int share = 20 + next(50);
        int grown = run % 2 == 0 ? 0 : 80 + next(200);
        for (int call = 0; call < CALLS; call++) {
            String changing = pick(call < grown ? GROWTH : CHANGES);
            String text = made(plain, most, next(100) < share ? changing : pick(READS));
            String got = Script.answer(quick, text.split(" "));
            String due = Script.answer(plain, text.split(" "));
            if (!got.equals(due)) {
                System.out.println("run " + run + " call " + call + ": " + text + " answered " + got + ", due is " + due);
                return false;
            }
        }
        return true;
    }

    private static String pick(List<String> calls) {
        return calls.get(next(calls.size()));
    }

    private static String made(PlainTables plain, int most, String call) {
        StringBuilder text = new StringBuilder();
        int table = 0;
        int width = 0;
        for (String word : call.split(" ")) {
            if (text.length() == 0) {
                text.append(word);
            } else if (word.equals("T")) {
                table = strayed(next(plain.tableCount()));
                width = table >= 0 && table < plain.tableCount() ? plain.columns(table) : 1 + next(3);
                text.append(' ').append(table);
            } else if (word.equals("F") && next(4) != 0 && table < plain.tableCount() && table >= 0
                    && plain.rowCount(table) > 0) {
                int row = next(plain.rowCount(table));
                for (int column = 0; column < 3; column++) {
                    text.append(' ').append(column < width ? plain.rowAt(table, row, column) : 0);
                }
            } else if (word.equals("R") || word.equals("F") || word.equals("V")) {
                for (int column = 0; column < 3; column++) {
                    int number = column < width ? next(word.equals("V") ? 4 : most) : 0;
                    text.append(' ').append(strayed(number));
                }
            } else {
                text.append(' ').append(number(plain, word.charAt(0)));
            }
        }
        return text.toString();
    }

    private static String number(PlainTables plain, char kind) {
        switch (kind) {
            case 'w':
                return "" + strayed(1 + next(3));
            case 'Q':
                return "" + strayed(next(4));
            case 'A':
                return "" + strayed(next(4));
            case 'U':
                return "" + strayed(next(Math.max(1, plain.ruleCount())));
            case 'o':
                return "" + order();
            case 'b':
                return "" + (next(3) == 0);
            case 'r':
                return "" + next(next(4) == 0 ? 80 : 12);
            case 'n':
                return "" + next(next(3) == 0 ? 200 : 6);
            case 'c':
                return "" + strayed(next(3));
            case 'l':
                return "" + strayed(next(9));
            case 'v':
                return "" + strayed(next(4));
            default:
                return "" + strayed(next(8));
        }
    }

    private static int order() {
        int[] digits = {0, 1, 2, 3};
        for (int i = 3; i > 0; i--) {
            int other = next(i + 1);
            int kept = digits[i];
            digits[i] = digits[other];
            digits[other] = kept;
        }
        int order = 1000 * digits[0] + 100 * digits[1] + 10 * digits[2] + digits[3];
        return next(12) == 0 ? next(4000) - 10 : order;
    }

    /** The number, and now and then one beside it or far away. */
    private static int strayed(int number) {
        switch (next(120)) {
            case 0:
                return -1;
            case 1:
                return number + 4;
            case 2:
                return Integer.MAX_VALUE;
            case 3:
                return Integer.MIN_VALUE;
            case 4:
                return 8;
            default:
                return number;
        }
    }

    private static int next(int limit) {
        seed = seed * 6364136223846793005L + 1442695040888963407L;
        return (int) ((seed >>> 33) % limit);
    }
}
