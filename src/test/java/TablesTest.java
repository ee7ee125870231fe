/** Promises 13 to 22: what is read of tables and their rows. */
public final class TablesTest {
    public static void main(String[] args) {
        counts();
        factsAndReasons();
        rowsInOrder();
        firstFrom();
        values();
        lower();
        fullTables();
        Script.end();
    }

    private static void counts() {
        Script.promise("13: tableCount", "tableCount = 3", "addTable 1 = 3", "tableCount = 4", "addTable 2 = 4",
            "tableCount = 5", "addTable 2 = STATE", "tableCount = 5", "undo = 1", "tableCount = 4");
        Script.promise("14: columns", "columns 0 = 2", "columns 1 = 2", "columns 2 = 1", "columns 3 = INDEX",
            "columns -1 = INDEX", "addTable 3 = 3", "columns 3 = 3", "columns 4 = INDEX", "columns -2147483648 = INDEX",
            "columns 2147483647 = INDEX");
        Script.promise("15: factCount", "factCount 0 = 6", "factCount 1 = 0", "factCount 2 = 1", "factCount 3 = INDEX",
            "factCount -1 = INDEX", "removeFact 2 3 0 0 = 0", "factCount 2 = 0", "addFact 1 0 1 0 = 1", "factCount 1 = 1");
        Script.promise("16: rowCount", "rowCount 0 = 6", "rowCount 1 = 16", "rowCount 2 = 1", "rowCount 3 = INDEX",
            "rowCount -1 = INDEX", "addFact 1 0 1 0 = 1", "rowCount 1 = 16", "addFact 0 4 5 0 = 7", "rowCount 1 = 21",
            "dropRule 0 = 1", "rowCount 1 = 6", "addTable 3 = 3", "rowCount 3 = 0");
    }

    private static void factsAndReasons() {
        Script.promise("17: isFact", "isFact 0 0 1 0 = true", "isFact 0 1 0 0 = false", "isFact 1 0 1 0 = false",
            "isFact 2 3 0 0 = true", "isFact 2 7 0 0 = false", "addFact 1 0 1 0 = 1", "isFact 1 0 1 0 = true");
        Script.promise("17: wrong inputs", "isFact 3 0 0 0 = INDEX", "isFact -1 9 9 9 = INDEX", "isFact 0 0 1 1 = ARGUMENT",
            "isFact 0 8 0 0 = ARGUMENT", "isFact 0 0 8 0 = ARGUMENT", "isFact 0 -1 0 0 = ARGUMENT",
            "isFact 0 0 -1 0 = ARGUMENT", "isFact 2 0 1 0 = ARGUMENT", "isFact 2 0 0 1 = ARGUMENT");

        // 0 2 of table 1: from the edge, over 0 1 and 1 2, and over 0 0 and 0 2.
        Script.promise("18: reasons", "reasons 1 0 2 0 = 3", "reasons 0 0 2 0 = 1", "reasons 2 3 0 0 = 1",
            "reasons 2 2 0 0 = 0", "reasons 1 3 4 0 = 1", "reasons 1 4 4 0 = 0", "addFact 1 0 2 0 = 1", "reasons 1 0 2 0 = 4",
            "addFact 1 7 7 0 = 2", "reasons 1 7 7 0 = 1");
        Script.promise("18: idle rules give none", "addRule 0 0 1 0 = 2", "addRuleAtom 2 2 0 0 0 false = 1",
            "reasons 0 0 1 0 = 1", "addRuleAtom 2 2 1 0 0 false = 2", "reasons 0 3 3 0 = 1", "reasons 0 0 1 0 = 1");
        Script.promise("18: each choice of values counts", "addRule 2 0 0 0 = 2", "addRuleAtom 2 1 0 1 0 false = 1",
            "reasons 2 0 0 0 = 5", "reasons 2 3 0 0 = 2", "reasons 2 4 0 0 = 0", "addRuleAtom 2 0 0 1 0 true = 2",
            "reasons 2 0 0 0 = 3", "reasons 2 3 0 0 = 1");
        Script.promise("18: wrong inputs", "reasons 3 0 0 0 = INDEX", "reasons -1 9 9 9 = INDEX", "reasons 0 0 1 1 = ARGUMENT",
            "reasons 0 8 0 0 = ARGUMENT", "reasons 1 0 -1 0 = ARGUMENT", "reasons 2 0 1 0 = ARGUMENT");
    }

    private static void rowsInOrder() {
        Script.promise("19: rowAt", "rowAt 0 0 0 = 0", "rowAt 0 0 1 = 1", "rowAt 0 1 1 = 2", "rowAt 0 2 0 = 1",
            "rowAt 0 3 1 = 0", "rowAt 0 4 1 = 3", "rowAt 0 5 0 = 3", "rowAt 0 5 1 = 4", "rowAt 2 0 0 = 3", "rowAt 1 0 1 = 0",
            "rowAt 1 4 1 = 4", "rowAt 1 5 0 = 1", "rowAt 1 15 0 = 3", "addFact 0 0 0 0 = 7", "rowAt 0 0 1 = 0",
            "rowAt 0 6 1 = 4", "addTable 3 = 3", "addFact 3 1 0 7 = 1", "addFact 3 0 7 7 = 2", "addFact 3 1 0 6 = 3",
            "rowAt 3 0 2 = 7", "rowAt 3 1 2 = 6", "rowAt 3 2 0 = 1", "rowAt 3 2 1 = 0", "rowAt 3 2 2 = 7");
        Script.promise("19: wrong inputs", "rowAt 3 0 0 = INDEX", "rowAt -1 0 0 = INDEX", "rowAt 0 6 0 = INDEX",
            "rowAt 0 -1 0 = INDEX", "rowAt 0 0 2 = INDEX", "rowAt 0 0 -1 = INDEX", "rowAt 2 0 1 = INDEX", "rowAt 2 1 0 = INDEX",
            "rowAt 1 16 0 = INDEX", "rowAt 0 2147483647 0 = INDEX", "rowAt 0 0 2147483647 = INDEX",
            "rowAt 0 -2147483648 -2147483648 = INDEX", "addTable 3 = 3", "rowAt 3 0 0 = INDEX", "addFact 3 0 0 0 = 1",
            "rowAt 3 0 2 = 0", "rowAt 3 0 3 = INDEX");
    }

    private static void firstFrom() {
        Script.promise("20: firstFrom", "firstFrom 0 0 0 0 = 0", "firstFrom 0 0 1 0 = 0", "firstFrom 0 0 2 0 = 1",
            "firstFrom 0 0 3 0 = 2", "firstFrom 0 1 2 0 = 2", "firstFrom 0 1 3 0 = 3", "firstFrom 0 3 4 0 = 5",
            "firstFrom 0 3 5 0 = NOSUCH", "firstFrom 0 7 7 0 = NOSUCH", "firstFrom 2 3 0 0 = 0", "firstFrom 2 4 0 0 = NOSUCH",
            "firstFrom 1 3 0 0 = 15", "addTable 3 = 3", "firstFrom 3 0 0 0 = NOSUCH", "addFact 3 1 2 3 = 1",
            "firstFrom 3 1 2 3 = 0", "firstFrom 3 1 2 4 = NOSUCH", "firstFrom 3 1 1 7 = 0");
        Script.promise("20: wrong inputs", "firstFrom 3 0 0 0 = INDEX", "firstFrom -1 9 9 9 = INDEX",
            "firstFrom 0 0 0 1 = ARGUMENT", "firstFrom 0 8 0 0 = ARGUMENT", "firstFrom 0 0 -1 0 = ARGUMENT",
            "firstFrom 2 7 1 0 = ARGUMENT");
    }

    private static void values() {
        Script.promise("21: values", "values 0 0 = 4", "values 0 1 = 5", "values 1 0 = 4", "values 1 1 = 5", "values 2 0 = 1",
            "removeFact 2 3 0 0 = 0", "values 2 0 = 0", "addFact 0 7 0 0 = 7", "values 0 0 = 5", "values 0 1 = 5",
            "values 1 0 = 5", "addTable 3 = 3", "addFact 3 0 1 7 = 1", "addFact 3 0 2 7 = 2", "addFact 3 0 3 0 = 3",
            "values 3 0 = 1", "values 3 1 = 3", "values 3 2 = 2",
            "addTable 1 = 4", "addFact 4 0 0 0 = 1", "values 4 0 = 1", "addFact 4 7 0 0 = 2", "values 4 0 = 2");
        Script.promise("21: wrong inputs", "values 3 0 = INDEX", "values -1 0 = INDEX", "values 0 2 = INDEX",
            "values 0 -1 = INDEX", "values 2 1 = INDEX", "values 1 2147483647 = INDEX");
    }

    private static void lower() {
        Script.promise("22: lower", "lower 0 8 = 3", "lower 0 4 = 3", "lower 0 3 = 2", "lower 0 1 = 0", "lower 0 0 = NOSUCH",
            "lower 2 8 = 3", "lower 2 4 = 3", "lower 2 3 = NOSUCH", "addFact 2 7 0 0 = 2", "lower 2 8 = 7", "lower 2 7 = 3",
            "addFact 1 6 0 0 = 1", "lower 1 8 = 6", "lower 1 6 = 3", "removeFact 0 2 0 0 = 5", "removeFact 0 2 3 0 = 4",
            "lower 0 3 = 1");
        Script.promise("22: wrong inputs", "lower 3 0 = INDEX", "lower -1 9 = INDEX", "lower 0 9 = ARGUMENT",
            "lower 0 -1 = ARGUMENT", "lower 2 2147483647 = ARGUMENT", "lower 2 -2147483648 = ARGUMENT", "addTable 1 = 3",
            "lower 3 8 = NOSUCH", "lower 3 9 = ARGUMENT");
    }

    private static void fullTables() {
        Script full = Script.promise("16, 19, 20: 512 rows", "addTable 3 = 3", "addRule 3 0 1 2 = 2");
        for (int value = 0; value < 8; value++) {
            full.says("addFact 2 " + value + " 0 0 = " + (value == 3 ? "STATE" : value < 3 ? value + 2 : value + 1));
        }
        full.says("addRuleAtom 2 2 0 0 0 false = 1", "addRuleAtom 2 2 1 0 0 false = 2", "rowCount 3 = 0",
            "addRuleAtom 2 2 2 0 0 false = 3", "rowCount 3 = 512", "rowAt 3 511 0 = 7", "rowAt 3 511 1 = 7",
            "rowAt 3 511 2 = 7", "rowAt 3 83 0 = 1", "rowAt 3 83 1 = 2", "rowAt 3 83 2 = 3", "rowAt 3 512 0 = INDEX",
            "firstFrom 3 7 7 7 = 511", "firstFrom 3 1 2 3 = 83", "values 3 2 = 8", "firings 2 = 512", "lower 3 8 = 7",
            "factCount 3 = 0", "isFact 3 0 0 0 = false", "reasons 3 7 0 7 = 1", "errors = 0");
    }
}
