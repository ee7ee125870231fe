/** Promises 34 to 42: rules, layers, rounds, and the measures over all. */
public final class RulesTest {
    public static void main(String[] args) {
        idleRules();
        layers();
        rounds();
        firings();
        rulesWithNot();
        measures();
        errors();
        checksums();
        Script.end();
    }

    private static void idleRules() {
        Script.promise("34: ruleCount", "ruleCount = 2", "addRule 0 0 0 0 = 2", "ruleCount = 3", "addRule 0 0 0 0 = 3",
            "addRule 0 0 0 0 = 4", "ruleCount = 5", "addRule 0 0 0 0 = STATE", "ruleCount = 5", "dropRule 0 = 4",
            "ruleCount = 4", "undo = 3", "ruleCount = 5");
        Script.promise("35: isIdle", "isIdle 0 = false", "isIdle 1 = false", "isIdle 2 = INDEX", "isIdle -1 = INDEX",
            "addRule 0 0 1 0 = 2", "isIdle 2 = true", "addRuleAtom 2 2 0 0 0 true = 1", "isIdle 2 = true",
            "addRuleAtom 2 2 0 0 0 false = 2", "isIdle 2 = true", "addRuleAtom 2 2 1 0 0 false = 3", "isIdle 2 = false",
            "addRuleAtom 2 2 2 0 0 true = 4", "isIdle 2 = true");
        Script.promise("35: only atoms with not", "addRule 2 0 0 0 = 2", "addRuleAtom 2 0 0 1 0 true = 1", "isIdle 2 = true",
            "firings 2 = 0", "rowCount 2 = 1", "addRuleAtom 2 0 0 1 0 false = 2", "isIdle 2 = false", "firings 2 = 0",
            "rowCount 2 = 1");
    }

    private static void layers() {
        Script.promise("36: layerOf", "layerOf 0 = 0", "layerOf 1 = 0", "layerOf 2 = 0", "layerOf 3 = INDEX", "layerOf -1 = INDEX",
            "addRule 2 0 0 0 = 2", "addRuleAtom 2 1 0 1 0 true = 1", "isIdle 2 = true", "layerOf 2 = 1", "addTable 2 = 3",
            "addRule 3 0 0 0 = 3", "addRuleAtom 3 2 0 0 0 false = 1", "layerOf 3 = 1", "addRuleAtom 3 2 0 0 0 true = 2",
            "layerOf 3 = 2", "layerOf 1 = 0", "dropRule 2 = 3", "layerOf 2 = 0", "layerOf 3 = 1", "undo = 6", "layerOf 3 = 2");
    }

    private static void rounds() {
        // Round 1 takes the edges, 2 and 3 the ways of two and three or more edges, 4 adds nothing.
        Script.promise("37: rounds", "rounds = 4", "dropRule 1 = 1", "rounds = 2", "dropRule 0 = 0", "rounds = 0");
        Script.promise("37: a round that adds nothing counts", "addTable 1 = 3", "addRule 3 0 0 0 = 2",
            "addRuleAtom 2 3 0 0 0 false = 1", "rounds = 4", "dropRule 0 = 2", "dropRule 0 = 1", "rounds = 1",
            "addFact 3 1 0 0 = 1", "rounds = 1");
        Script.promise("37: layers one behind the other", "addRule 2 0 0 0 = 2", "addRuleAtom 2 0 0 1 0 false = 1", "rounds = 4",
            "rowCount 2 = 4", "addRuleAtom 2 1 0 0 0 true = 2", "rounds = 5", "rowCount 2 = 1", "addTable 1 = 3",
            "addRule 3 1 0 0 = 3", "addRuleAtom 3 2 1 0 0 false = 1", "rounds = 6", "addRuleAtom 3 2 0 0 0 true = 2",
            "rounds = 5", "isIdle 3 = true", "dropRule 2 = 3", "rounds = 4");
        Script.promise("37: the first row of the first table", "dropRule 1 = 1", "dropRule 0 = 0", "addFact 2 0 0 0 = 2",
            "removeFact 2 3 0 0 = 1", "addRule 0 0 0 0 = 0", "addRuleAtom 0 2 0 0 0 false = 1", "rounds = 2", "rowCount 0 = 7",
            "rowAt 0 0 1 = 0");
        // Each rule sees the tables as they are when the round begins, also what comes behind it.
        Script.promise("37: a chain of rules", "dropRule 1 = 1", "dropRule 0 = 0", "addTable 1 = 3", "addTable 1 = 4",
            "addRule 3 0 0 0 = 0", "addRuleAtom 0 2 0 0 0 false = 1", "rounds = 2", "addRule 4 0 0 0 = 1",
            "addRuleAtom 1 3 0 0 0 false = 1", "rounds = 3", "addRule 1 0 0 0 = 2", "addRuleAtom 2 4 0 0 0 false = 1",
            "rounds = 4", "rowCount 1 = 1");
        Script chain = Script.promise("37: a long chain", "removeFact 0 2 0 0 = 5", "rounds = 4", "rowCount 1 = 10");
        for (int from = 4; from < 7; from++) {
            chain.says("addFact 0 " + from + " " + (from + 1) + " 0 = " + (from + 2));
        }
        chain.says("rounds = 7", "rowCount 1 = 28", "removeFact 0 0 2 0 = 7", "rounds = 8");
    }

    private static void firings() {
        Script.promise("38: firings", "firings 0 = 6", "firings 1 = 18", "firings 2 = INDEX", "firings -1 = INDEX",
            "addRule 1 0 0 0 = 2", "firings 2 = 0", "addRuleAtom 2 0 1 2 0 false = 1", "firings 2 = 0",
            "addRuleAtom 2 0 0 1 0 false = 2", "firings 2 = 8", "addRuleAtom 2 2 2 0 0 true = 3", "firings 2 = 6");
        // By the tables as they are in the end: also rows that the rule itself has added.
        Script.promise("38: in the end", "dropRule 0 = 1", "addFact 1 0 0 0 = 1", "rowCount 1 = 5", "firings 0 = 6",
            "reasons 1 0 0 0 = 2");
    }

    private static void rulesWithNot() {
        // The ways that have no edge: 16 rows, 6 of them edges.
        Script.promise("16, 18, 38: ways that are no edge", "addTable 2 = 3", "addRule 3 1 0 0 = 2",
            "addRuleAtom 2 1 0 1 0 false = 1", "addRuleAtom 2 0 0 1 0 true = 2", "layerOf 3 = 1", "rowCount 3 = 10",
            "firings 2 = 10", "reasons 3 0 0 0 = 1", "reasons 3 1 0 0 = 0", "reasons 3 3 0 0 = 1", "rounds = 6",
            "addFact 0 0 0 0 = 7", "rowCount 3 = 9", "errors = 0");
        Script.promise("18, 38: a column twice", "addTable 3 = 3", "addFact 3 1 1 2 = 1", "addFact 3 1 2 2 = 2",
            "addFact 3 4 5 4 = 3", "addFact 3 6 6 6 = 4", "addRule 2 0 0 0 = 2", "addRuleAtom 2 3 0 0 1 false = 1",
            "firings 2 = 2", "reasons 2 1 0 0 = 1", "reasons 2 6 0 0 = 1", "rowCount 2 = 3", "addRuleAtom 2 3 1 0 1 true = 2",
            "firings 2 = 1",
            "reasons 2 6 0 0 = 0", "reasons 2 1 0 0 = 1", "rowCount 2 = 2");
    }

    private static void measures() {
        Script.promise("39: meanReasons", "meanReasons = 1.3478260869565217", "dropRule 1 = 1", "meanReasons = 1.0",
            "addFact 1 0 1 0 = 1", "meanReasons = 1.0769230769230769");
        Script.promise("40: factShare", "factShare = 0.3043478", "dropRule 1 = 1", "factShare = 0.53846157", "dropRule 0 = 0",
            "factShare = 1.0");
        Script.promise("39, 40: without rows", "removeFact 0 0 1 0 = 5", "removeFact 0 0 2 0 = 4", "removeFact 0 1 2 0 = 3",
            "removeFact 0 2 0 0 = 2", "removeFact 0 2 3 0 = 1", "removeFact 0 3 4 0 = 0", "meanReasons = 1.0",
            "factShare = 1.0", "removeFact 2 3 0 0 = 0", "meanReasons = 0.0", "factShare = 0.0", "rounds = 1", "errors = 0");
    }

    private static void errors() {
        Script.promise("41: errors", "errors = 0", "addFact 1 7 7 0 = 1", "addAtom 2 1 0 1 0 = 0", "addAtom 2 1 1 2 0 = 1",
            "addAtom 2 1 3 0 0 = 2", "errors = 0", "setOrder 2 3120 = 123", "errors = 0", "clearIdle 2 0 = 0",
            "addRule 2 0 0 0 = 2", "addRuleAtom 2 1 0 1 0 false = 1", "addRuleAtom 2 0 0 1 0 true = 2", "errors = 0",
            "dropRule 0 = 2", "errors = 0", "undo = 9", "errors = 0");
    }

    private static void checksums() {
        Script.promise("42: checksum", "checksum = 26425950");
        Script sum = Script.promise("42: a few rows", "dropRule 0 = 1", "dropRule 0 = 0", "removeFact 0 0 1 0 = 5",
            "removeFact 0 0 2 0 = 4", "removeFact 0 1 2 0 = 3", "removeFact 0 2 0 0 = 2", "removeFact 0 2 3 0 = 1",
            "removeFact 0 3 4 0 = 0");
        sum.says("checksum = " + summed(3, 0, 0, 0, 0), "addAtom 3 2 0 0 0 = 0", "checksum = " + summed(3, 0, 0, 0, 1),
            "clearQuery 3 = 1", "addAtom 0 2 3 0 0 = 3", "answers 0 = 0", "addFact 0 4 5 0 = 1", "addFact 1 4 3 0 = 1",
            "checksum = " + summed(4, 5, 4, 3, 3, 0, 1, 0, 0), "addTable 3 = 3", "addFact 3 7 6 5 = 1",
            "addFact 3 7 5 6 = 2", "checksum = " + summed(4, 5, 4, 3, 3, 7, 5, 6, 7, 6, 5, 0, 1, 0, 0));
    }

    private static int summed(int... numbers) {
        int sum = 17;
        for (int number : numbers) {
            sum = 31 * sum + number;
        }
        return sum;
    }
}
