import java.math.BigInteger;
import java.util.ArrayList;
import java.util.List;

/** Each sentence of the promises 34 to 42: rules, and the measures over all. */
public final class Promises34To42Test {
    public static void main(String[] args) {
        ruleCount();
        isIdle();
        layerOf();
        rounds();
        firings();
        meanReasons();
        factShare();
        errors();
        checksum();
        checksumOfManyRows();
        Script.endOf("promise", 34, 42);
    }

    private static Script sentence(int promise, String words, String... lines) {
        return Script.sentence("promise " + promise, words, lines);
    }

    /** A run in which table 2 has all 8 rows, and table 3, of three columns, all 512. */
    private static Script allRows(int promise, String words) {
        return sentence(promise, words, "addFact 2 0 0 0 = 2", "addFact 2 1 0 0 = 3", "addFact 2 2 0 0 = 4",
            "addFact 2 4 0 0 = 5", "addFact 2 5 0 0 = 6", "addFact 2 6 0 0 = 7", "addFact 2 7 0 0 = 8",
            "addTable 3 = 3", "addRule 3 0 1 2 = 2", "addRuleAtom 2 2 0 0 0 false = 1",
            "addRuleAtom 2 2 1 0 0 false = 2", "addRuleAtom 2 2 2 0 0 false = 3");
    }

    private static void ruleCount() {
        sentence(34, "the number of rules. // 0 to 5.", "ruleCount = 2", "addRule 0 0 0 0 = 2", "ruleCount = 3",
            "addRule 0 0 0 0 = 3", "addRule 0 0 0 0 = 4", "ruleCount = 5", "addRule 0 0 0 0 = STATE", "ruleCount = 5",
            "dropRule 4 = 4", "dropRule 0 = 3", "ruleCount = 3", "dropRule 0 = 2", "dropRule 0 = 1", "dropRule 0 = 0",
            "ruleCount = 0", "dropRule 0 = INDEX", "ruleCount = 0", "undo = 7", "ruleCount = 1");
    }

    private static void isIdle() {
        sentence(35, "Tells whether a rule is idle (section 4). // `rule`: number of a rule // true if so.",
            "isIdle {0 1} = false", "addRule 2 0 0 0 = 2", "isIdle 2 = true", "addRuleAtom 2 0 1 2 0 false = 1",
            "isIdle 2 = true", "addRuleAtom 2 0 0 1 0 true = 2", "isIdle 2 = true", "addRuleAtom 2 1 0 3 0 false = 3",
            "isIdle 2 = false", "addRuleAtom 2 1 3 3 0 true = 4", "isIdle 2 = false",
            "addRuleAtom 0 2 2 0 0 true = STATE", "isIdle 0 = false", "addRuleAtom 0 0 2 2 0 true = 2",
            "isIdle 0 = true", "undo = 5", "isIdle 0 = false");
        sentence(35, "if there is no such rule", "isIdle {-1 2 3 4 5 8 MAX MIN} = INDEX", "dropRule 1 = 1",
            "isIdle 1 = INDEX", "dropRule 0 = 0", "isIdle 0 = INDEX");
    }

    private static void layerOf() {
        sentence(36, "the layer of a table. // `table`: number of a table", "layerOf {0 1 2} = 0",
            "addRule 2 0 0 0 = 2", "layerOf 2 = 0", "addRuleAtom 2 1 0 1 0 true = 1", "layerOf 2 = 1",
            "layerOf {0 1} = 0", "addTable 3 = 3", "layerOf 3 = 0", "addRule 3 0 1 2 = 3",
            "addRuleAtom 3 2 0 0 0 true = 1", "layerOf 3 = 2", "dropRule 2 = 3", "layerOf 3 = 1", "layerOf 2 = 0");
        sentence(36, "0 or more.", "addTable 1 = 3", "addTable 1 = 4", "dropRule 1 = 1", "dropRule 0 = 0",
            "addRule 0 0 0 0 = 0", "addRuleAtom 0 1 0 0 0 true = 1", "addRule 1 0 0 0 = 1",
            "addRuleAtom 1 2 0 0 0 true = 1", "addRule 2 0 0 0 = 2", "addRuleAtom 2 3 0 0 0 true = 1",
            "addRule 3 0 0 0 = 3", "addRuleAtom 3 4 0 0 0 true = 1", "layerOf 0 = 4", "layerOf 1 = 3", "layerOf 2 = 2",
            "layerOf 3 = 1", "layerOf 4 = 0", "dropRule 1 = 3", "layerOf 0 = 1", "layerOf 1 = 0", "layerOf 2 = 2");
        sentence(36, "if there is no such table", "layerOf {-1 3 4 5 8 MAX MIN} = INDEX", "addTable 1 = 3",
            "layerOf 3 = 0", "layerOf 4 = INDEX");
    }

    private static void rounds() {
        sentence(37, "the number of rounds in which the rows are made, of all layers together. // the number.",
            "rounds = 4", "addRule 2 0 0 0 = 2", "rounds = 4", "addRuleAtom 2 0 0 1 0 false = 1", "rounds = 4",
            "addRuleAtom 2 1 0 0 0 true = 2", "layerOf 2 = 1", "rounds = 5", "removeFact 0 2 0 0 = 5", "rounds = 6",
            "rowCount 2 = 4", "addTable 1 = 3", "addRule 3 0 0 0 = 3", "addRuleAtom 3 0 0 1 0 false = 1", "rounds = 6",
            "addRuleAtom 3 2 0 0 0 true = 2", "rounds = 7", "addRuleAtom 3 2 1 0 0 true = 3", "rounds = 7");
        sentence(37, "the number.", "dropRule 0 = 1", "rounds = 1", "dropRule 0 = 0", "rounds = 0",
            "addRule 0 0 0 0 = 0", "rounds = 0");
    }

    private static void firings() {
        sentence(38,
            "Counts the choices of values with which a rule gives rows // `rule`: number of a rule // the number;",
            "firings 0 = 6", "firings 1 = 18", "addRule 2 0 0 0 = 2", "addRuleAtom 2 0 0 1 0 false = 1",
            "firings 2 = 6", "addRuleAtom 2 0 2 3 0 false = 2", "firings 2 = 36", "addRuleAtom 2 0 0 3 0 true = 3",
            "firings 2 = 23", "addRuleAtom 2 0 2 1 0 true = 4", "firings 2 = 22");
        sentence(38, ", by the tables as they are in the end.", "dropRule 0 = 1", "firings 0 = 0",
            "addFact 1 0 0 0 = 1", "firings 0 = 6", "rowCount 1 = 5", "removeFact 0 2 0 0 = 5", "firings 0 = 5");
        allRows(38, "the number;").says("firings 2 = 512", "addRule 1 0 0 0 = 3", "addRuleAtom 3 3 0 1 2 false = 1",
            "firings 3 = 512", "addRuleAtom 3 2 3 0 0 false = 2", "firings 3 = 4096", "addRuleAtom 3 2 3 0 0 true = 3",
            "firings 3 = 0", "isIdle 3 = false");
        sentence(38, "0 if the rule is idle.", "addRule 2 0 0 0 = 2", "firings 2 = 0",
            "addRuleAtom 2 0 1 2 0 false = 1", "isIdle 2 = true", "firings 2 = 0", "addRuleAtom 0 2 3 0 0 true = 2",
            "isIdle 0 = true", "firings {0 1} = 0");
        sentence(38, "if there is no such rule", "firings {-1 2 3 4 5 8 MAX MIN} = INDEX", "dropRule 1 = 1",
            "firings 1 = INDEX", "dropRule 0 = 0", "firings 0 = INDEX");
    }

    private static void meanReasons() {
        // 6 and 1 facts, 6 and 18 choices of values; 6, 16 and 1 rows.
        sentence(39,
            "the mean number of reasons. // the sum of the reasons of all rows of all tables as a double, divided by the number "
            + "of these rows as a double;", "meanReasons = " + (6 + 1 + 6 + 18) / 23.0, "addFact 1 0 2 0 = 1",
            "meanReasons = " + 32 / 23.0, "addFact 2 7 0 0 = 2", "meanReasons = " + 33 / 24.0, "dropRule 1 = 1",
            "meanReasons = " + 15 / 14.0, "addTable 3 = 3", "meanReasons = " + 15 / 14.0, "addFact 3 7 7 7 = 1",
            "meanReasons = " + 16 / 15.0);
        allRows(39, "the sum of the reasons of all rows of all tables as a double").says("meanReasons = " + (6 + 6 + 18
            + 8 + 512) / (6 + 16 + 8 + 512.0), "addRule 0 0 1 0 = 3", "addRuleAtom 3 3 0 1 2 false = 1",
            "rowCount {0 1} = 64", "meanReasons = " + (6 + 512 + 64 + 512 + 8 + 512) / (64 + 64 + 8 + 512.0));
        sentence(39, "divided by the number of these rows as a double;", "addTable 3 = 3", "addTable 3 = 4",
            "addFact 3 7 7 7 = 1", "meanReasons = " + 32 / 24.0, "addFact 4 0 0 0 = 1", "meanReasons = " + 33 / 25.0);
        sentence(39, "0.0 without rows.", "removeFact 0 0 1 0 = 5", "removeFact 0 0 2 0 = 4", "removeFact 0 1 2 0 = 3",
            "removeFact 0 2 0 0 = 2", "removeFact 0 2 3 0 = 1", "removeFact 0 3 4 0 = 0", "meanReasons = 1.0",
            "removeFact 2 3 0 0 = 0", "meanReasons = 0.0", "addFact 1 7 7 0 = 1", "meanReasons = 1.0");
    }

    private static void factShare() {
        sentence(40,
            "the share of rows that are facts. // the number of all facts as a float, divided by the number of all rows "
            + "as a float;",
            "factShare = " + 7 / 23f, "addFact 1 0 2 0 = 1", "factShare = " + 8 / 23f, "addFact 2 7 0 0 = 2",
            "factShare = " + 9 / 24f, "addTable 3 = 3", "addFact 3 7 7 7 = 1", "factShare = " + 10 / 25f,
            "dropRule 1 = 1", "factShare = " + 10 / 15f, "dropRule 0 = 0", "factShare = 1.0");
        allRows(40, "the number of all facts as a float, divided by the number of all rows as a float;").says(
            "factShare = " + 14 / 542f);
        sentence(40, "0.0f without rows.", "removeFact 0 0 1 0 = 5", "removeFact 0 0 2 0 = 4", "removeFact 0 1 2 0 = 3",
            "removeFact 0 2 0 0 = 2", "removeFact 0 2 3 0 = 1", "removeFact 0 3 4 0 = 0", "factShare = 1.0",
            "removeFact 2 3 0 0 = 0", "factShare = 0.0", "addFact 1 7 7 0 = 1", "factShare = 1.0");
    }

    private static void errors() {
        String words = "Looks over all by plain counting. "
            + "// the number of queries whose answers are unlike in number if all values of "
            + "their variables are tried one by one, plus the number of rows without a reason; always 0.";
        sentence(41, words, "errors = 0", "addFact 1 7 7 0 = 1", "addTable 3 = 3", "addFact 3 1 2 3 = 1",
            "addFact 3 4 4 4 = 2", "addFact 3 0 0 4 = 3", "addAtom 2 3 0 1 2 = 0", "addAtom 2 3 2 3 3 = 1",
            "errors = 0", "setOrder 2 3120 = 123", "errors = 0", "addAtom 3 1 3 0 0 = 0", "addAtom 3 0 0 2 0 = 1",
            "addAtom 3 1 2 3 0 = 2", "setOrder 3 2013 = 123", "errors = 0", "clearQuery 0 = 3", "errors = 0",
            "addRule 2 1 0 0 = 2", "errors = 0", "addRuleAtom 2 1 1 0 0 false = 1", "addRuleAtom 2 0 1 0 0 true = 2",
            "errors = 0", "dropRule 0 = 2", "errors = 0", "clearIdle 2 0 = 1", "errors = 0", "undo = 9", "errors = 0");
        allRows(41, words).says("addAtom 2 3 0 1 2 = 0", "addAtom 2 3 3 2 1 = 1", "answers 2 = 4096", "errors = 0",
            "addAtom 3 2 1 0 0 = 0", "addAtom 3 2 3 0 0 = 1", "answers 3 = 64", "errors = 0");
    }

    /** 17, then for each number 31 times itself plus the number, wrapped to 32 bits at the end. */
    private static int wrapped(List<Integer> numbers, boolean needsToWrap) {
        BigInteger sum = BigInteger.valueOf(17);
        for (int number : numbers) {
            sum = sum.multiply(BigInteger.valueOf(31)).add(BigInteger.valueOf(number));
        }
        if (needsToWrap != sum.bitLength() > 31) {
            throw new Error("the sum " + sum + " does not try what it is for");
        }
        return sum.intValue();
    }

    private static void checksum() {
        String noFacts = "removeFact 2 3 0 0 = 0";
        Script few = sentence(42,
            "it is 17 at first; // ; then for each query it becomes 31 times itself plus the number of its answers.",
            "removeFact 0 0 1 0 = 5", "removeFact 0 0 2 0 = 4", "removeFact 0 1 2 0 = 3", "removeFact 0 2 0 0 = 2",
            "removeFact 0 2 3 0 = 1", "removeFact 0 3 4 0 = 0", noFacts);
        few.says("checksum = " + wrapped(List.of(0, 0, 0, 0), false), "addFact 2 5 0 0 = 1", "checksum = "
            + wrapped(List.of(5, 0, 0, 0, 0), false), "addAtom 2 2 0 0 0 = 0", "checksum = " + wrapped(List.of(5, 0, 0,
            1, 0), false), "addFact 2 1 0 0 = 2", "addAtom 3 2 3 0 0 = 0", "addAtom 3 2 1 0 0 = 1", "checksum = "
            + wrapped(List.of(1, 5, 0, 0, 2, 4), true));
        sentence(42,
            "for each table in order and each of its rows in order, for each of its columns: "
            + "it becomes 31 times itself plus the value",
            "dropRule 1 = 1", "dropRule 0 = 0", "addTable 3 = 3", "addFact 3 7 6 5 = 1", "addFact 3 7 5 6 = 2",
            "addFact 1 4 0 0 = 1", "addFact 1 0 6 0 = 2", "checksum = " + wrapped(List.of(0, 1, 0, 2, 1, 2, 2, 0, 2, 3,
            3, 4, 0, 6, 4, 0, 3, 7, 5, 6, 7, 6, 5, 3, 0, 0, 0), true));
        sentence(42, "for each table in order and each of its rows in order", "dropRule 1 = 1", "dropRule 0 = 0",
            "addTable 3 = 3", "addTable 3 = 4", "addFact 3 7 7 7 = 1", "checksum = "
            + wrapped(List.of(0, 1, 0, 2, 1, 2, 2, 0, 2, 3, 3, 4, 3, 7, 7, 7, 3, 0, 0, 0), true), "addFact 4 0 0 0 = 1",
            "checksum = " + wrapped(List.of(0, 1, 0, 2, 1, 2, 2, 0, 2, 3, 3, 4, 3, 7, 7, 7, 0, 0, 0, 3, 0, 0, 0), true));
    }

    private static void checksumOfManyRows() {
        List<Integer> numbers = new ArrayList<>(List.of(0, 1, 0, 2, 1, 2, 2, 0, 2, 3, 3, 4));
        for (int row = 0; row < 15; row++) {
            numbers.addAll(List.of(row / 5, row % 5));
        }
        numbers.addAll(List.of(3, 4, 3, 3, 3, 0, 0));
        sentence(42, "a checksum; it wraps.", "checksum = " + wrapped(numbers, true), "checksum = 26425950");
        for (int less = 0; less < 7; less++) {
            numbers.remove(numbers.size() - 1);
        }
        numbers.addAll(List.of(3, 4, 0, 1, 2, 3, 4, 5, 6, 7));
        for (int row = 0; row < 512; row++) {
            numbers.addAll(List.of(row / 64, row / 8 % 8, row % 8));
        }
        numbers.addAll(List.of(3, 16, 4096, 0));
        int sum = wrapped(numbers, true);
        allRows(42, "a checksum; it wraps.").says("addAtom 2 3 0 1 2 = 0", "addAtom 2 2 3 0 0 = 1", "checksum = " + sum,
            "checksum = " + sum);
        // A sum below 0 as well.
        numbers.set(numbers.size() - 2, 0);
        int without = wrapped(numbers, true);
        allRows(42, "a checksum; it wraps.").says("checksum = " + without);
        if (sum >= 0 && without >= 0) {
            throw new Error("neither " + sum + " nor " + without + " is below 0");
        }
    }
}
