/** Promises 1 to 12: a new object, the changes, undo. */
public final class ChangesTest {
    public static void main(String[] args) {
        newObject();
        changesOfTables();
        changesOfQueries();
        clearIdle();
        changesOfRules();
        layersRefused();
        undo();
        undoOfEachChange();
        refusedChangesNothing();
        Script.end();
    }

    private static void newObject() {
        Script.promise("1: tables", "tableCount = 3", "columns 0 = 2", "columns 1 = 2", "columns 2 = 1", "factCount 0 = 6",
            "factCount 1 = 0", "factCount 2 = 1", "isFact 0 0 1 0 = true", "isFact 0 0 2 0 = true",
            "isFact 0 1 2 0 = true", "isFact 0 2 0 0 = true", "isFact 0 2 3 0 = true", "isFact 0 3 4 0 = true",
            "isFact 2 3 0 0 = true");
        Script.promise("1: rules", "ruleCount = 2", "isIdle 0 = false", "isIdle 1 = false", "firings 0 = 6",
            "firings 1 = 18", "rowCount 1 = 16", "dropRule 1 = 1", "rowCount 1 = 6", "dropRule 0 = 0", "rowCount 1 = 0");
        Script.promise("1: queries", "atomCount 0 = 3", "atomCount 1 = 2", "atomCount 2 = 0", "atomCount 3 = 0",
            "answers 0 = 3", "answerAt 0 0 0 = 0", "answerAt 0 0 1 = 1", "answerAt 0 0 2 = 2", "answers 1 = 3",
            "answerAt 1 0 1 = 3", "setOrder 0 3210 = 123", "setOrder 1 3210 = 123", "setOrder 2 3210 = 123",
            "setOrder 3 3210 = 123");
        Script.promise("1: nothing can be undone", "undo = -1", "tableCount = 3", "undo = -1");
        Script.promise("1: each object has its own state", "addFact 2 1 0 0 = 2", "addTable 3 = 3", "dropRule 0 = 1");
        Script.promise("1: a second object is new again", "factCount 2 = 1", "tableCount = 3", "ruleCount = 2", "undo = -1");
    }

    private static void changesOfTables() {
        Script.promise("2: addTable", "addTable 3 = 3", "columns 3 = 3", "factCount 3 = 0", "rowCount 3 = 0", "addTable 1 = 4",
            "columns 4 = 1", "tableCount = 5");
        Script.promise("2: the edges", "addTable 0 = ARGUMENT", "addTable 4 = ARGUMENT", "addTable -2147483648 = ARGUMENT",
            "addTable 2147483647 = ARGUMENT", "tableCount = 3", "undo = -1", "addTable 2 = 3", "addTable 2 = 4",
            "addTable 1 = STATE", "addTable 3 = STATE", "addTable 0 = ARGUMENT", "addTable 4 = ARGUMENT",
            "tableCount = 5", "undo = 1", "undo = 0", "undo = -1");

        Script.promise("3: addFact", "addFact 0 7 7 0 = 7", "isFact 0 7 7 0 = true", "rowCount 0 = 7", "addFact 2 0 0 0 = 2",
            "addFact 2 7 0 0 = 3", "rowCount 1 = 17", "addFact 1 3 4 0 = 1",
            "rowCount 1 = 17", "addFact 1 7 6 0 = 2", "rowCount 1 = 18");
        Script.promise("3: wrong inputs", "addFact -1 0 1 0 = INDEX", "addFact 3 0 0 0 = INDEX", "addFact 3 8 8 8 = INDEX",
            "addFact 0 0 1 1 = ARGUMENT", "addFact 0 8 0 0 = ARGUMENT", "addFact 0 0 8 0 = ARGUMENT",
            "addFact 0 -1 0 0 = ARGUMENT", "addFact 0 0 -1 0 = ARGUMENT", "addFact 2 3 1 0 = ARGUMENT",
            "addFact 2 3 0 1 = ARGUMENT", "addFact 2 3 0 -1 = ARGUMENT", "addFact 2 3 -1 0 = ARGUMENT",
            "addFact 0 0 1 0 = STATE", "addFact 2 3 0 0 = STATE", "factCount 0 = 6", "factCount 2 = 1", "undo = -1");
        Script.promise("3: three columns", "addTable 3 = 3", "addFact 3 7 7 7 = 1", "addFact 3 0 0 0 = 2", "addFact 3 0 0 7 = 3",
            "addFact 3 0 0 8 = ARGUMENT", "addFact 3 0 0 -1 = ARGUMENT", "addFact 3 7 7 7 = STATE", "isFact 3 0 0 7 = true",
            "isFact 3 0 7 0 = false", "rowAt 3 1 2 = 7", "rowAt 3 2 0 = 7");
        Script full = Script.promise("3: 60 facts");
        for (int n = 0; n < 60; n++) {
            full.says("addFact 1 " + n / 8 + " " + n % 8 + " 0 = " + (n + 1));
        }
        full.says("addFact 1 7 7 0 = STATE", "addFact 1 0 0 0 = STATE", "addFact 1 8 0 0 = ARGUMENT", "factCount 1 = 60",
            "addFact 0 7 7 0 = 7", "removeFact 1 3 3 0 = 59", "addFact 1 7 7 0 = 60", "addFact 1 3 3 0 = STATE",
            "undo = 9", "isFact 1 7 7 0 = false", "undo = 8", "isFact 1 3 3 0 = true", "factCount 1 = 60");

        Script.promise("4: removeFact", "removeFact 0 2 0 0 = 5", "isFact 0 2 0 0 = false", "rowCount 0 = 5", "answers 0 = 0",
            "rowCount 1 = 10", "removeFact 2 3 0 0 = 0", "factCount 2 = 0", "answers 1 = 0");
        Script.promise("4: wrong inputs", "removeFact 3 0 1 0 = INDEX", "removeFact -1 9 9 9 = INDEX",
            "removeFact 0 0 1 1 = ARGUMENT", "removeFact 0 8 1 0 = ARGUMENT", "removeFact 2 3 1 0 = ARGUMENT",
            "removeFact 0 7 7 0 = NOSUCH", "removeFact 1 0 1 0 = NOSUCH", "removeFact 2 2 0 0 = NOSUCH",
            "removeFact 0 0 1 0 = 5", "removeFact 0 0 1 0 = NOSUCH", "undo = 0", "factCount 0 = 6");
    }

    private static void changesOfQueries() {
        Script.promise("5: addAtom", "addAtom 2 0 3 1 0 = 0", "addAtom 2 2 3 0 0 = 1", "atomCount 2 = 2", "answers 2 = 1",
            "answerAt 2 0 3 = 3", "answerAt 2 0 1 = 4", "addAtom 0 2 0 0 0 = 3", "answers 0 = 0", "addAtom 1 1 0 0 0 = 2",
            "answers 1 = 3");
        Script.promise("5: wrong inputs", "addAtom -1 0 0 1 0 = INDEX", "addAtom 4 0 0 1 0 = INDEX", "addAtom 0 3 0 1 0 = INDEX",
            "addAtom 0 -1 0 1 0 = INDEX", "addAtom 4 0 9 9 9 = INDEX", "addAtom 0 3 9 9 9 = INDEX",
            "addAtom 0 0 4 0 0 = ARGUMENT", "addAtom 0 0 0 4 0 = ARGUMENT", "addAtom 0 0 0 1 1 = ARGUMENT",
            "addAtom 0 0 -1 0 0 = ARGUMENT", "addAtom 0 2 0 1 0 = ARGUMENT", "addAtom 0 2 1 0 2 = ARGUMENT",
            "atomCount 0 = 3", "undo = -1");
        Script.promise("5: 5 atoms", "addAtom 0 1 0 1 0 = 3", "addAtom 0 1 0 1 0 = 4", "addAtom 0 1 0 1 0 = STATE",
            "addAtom 0 1 4 1 0 = ARGUMENT", "addAtom 0 5 0 1 0 = INDEX", "atomCount 0 = 5", "answers 0 = 3",
            "addAtom 3 1 3 3 0 = 0", "answers 3 = 3");

        Script.promise("6: clearQuery", "setOrder 0 3201 = 123", "clearQuery 0 = 3", "atomCount 0 = 0", "answers 0 = 0",
            "clearQuery 0 = 0", "atomCount 1 = 2", "setOrder 0 123 = 3201", "clearQuery 1 = 2", "clearQuery 4 = INDEX",
            "clearQuery -1 = INDEX", "undo = 4", "atomCount 1 = 2", "undo = 3", "undo = 2", "atomCount 0 = 0", "undo = 1",
            "atomCount 0 = 3");

        Script.promise("7: setOrder", "setOrder 3 3210 = 123", "setOrder 3 1032 = 3210", "setOrder 3 132 = 1032",
            "setOrder 3 132 = 132", "setOrder 3 123 = 132", "setOrder 0 213 = 123", "undo = 5", "undo = 4", "undo = 3",
            "setOrder 3 2301 = 132");
        Script.promise("7: wrong inputs", "setOrder 4 123 = INDEX", "setOrder -1 0 = INDEX", "setOrder 0 0 = ARGUMENT",
            "setOrder 0 -123 = ARGUMENT", "setOrder 0 122 = ARGUMENT", "setOrder 0 124 = ARGUMENT",
            "setOrder 0 1234 = ARGUMENT", "setOrder 0 10123 = ARGUMENT", "setOrder 0 3211 = ARGUMENT",
            "setOrder 0 9123 = ARGUMENT", "setOrder 0 -2147483648 = ARGUMENT", "setOrder 0 2147483647 = ARGUMENT",
            "setOrder 0 12 = ARGUMENT", "undo = -1", "setOrder 0 123 = 123");
    }

    private static void clearIdle() {
        // 0 1, 1 2 and 2 0 make the three answers of query 0; 0 2, 2 3 and 3 4 make none.
        Script.promise("8: clearIdle", "clearIdle 0 0 = 3", "factCount 0 = 3", "isFact 0 0 1 0 = true",
            "isFact 0 0 2 0 = false", "isFact 0 1 2 0 = true", "isFact 0 2 0 0 = true", "isFact 0 2 3 0 = false",
            "isFact 0 3 4 0 = false", "rowCount 0 = 3", "rowCount 1 = 9", "answers 0 = 3", "clearIdle 0 2 = 0",
            "undo = 1", "undo = 0", "factCount 0 = 6", "rowCount 1 = 16");
        Script.promise("8: all facts where there is no answer", "removeFact 0 2 0 0 = 5", "clearIdle 0 1 = 5",
            "factCount 0 = 0", "rowCount 1 = 0", "undo = 1", "factCount 0 = 5");
        // The rows of table 1 that end in 3 are made by the rules again, with or without the fact.
        Script.promise("8: rows that rules add stay", "addFact 1 3 4 0 = 1", "addFact 1 2 3 0 = 2", "addFact 1 5 3 0 = 3",
            "addFact 1 6 6 0 = 4", "rowCount 1 = 19", "answers 1 = 4", "clearIdle 1 0 = 2", "isFact 1 3 4 0 = false",
            "isFact 1 2 3 0 = true", "isFact 1 5 3 0 = true", "isFact 1 6 6 0 = false", "rowCount 1 = 18",
            "reasons 1 3 4 0 = 1");
        Script.promise("8: columns of one variable", "addAtom 2 0 1 1 0 = 0", "addFact 0 5 5 0 = 7", "clearIdle 2 0 = 6",
            "factCount 0 = 1", "isFact 0 5 5 0 = true");
        Script.promise("8: a table at two atoms", "addAtom 2 0 0 1 0 = 0", "addAtom 2 0 1 1 0 = 1", "addFact 0 5 5 0 = 7",
            "addFact 0 4 5 0 = 8", "clearIdle 2 0 = 6", "isFact 0 4 5 0 = true", "clearIdle 2 1 = 1", "isFact 0 4 5 0 = false");
        Script.promise("8: wrong inputs", "clearIdle 4 0 = INDEX", "clearIdle -1 0 = INDEX", "clearIdle 0 3 = INDEX",
            "clearIdle 0 -1 = INDEX", "clearIdle 2 0 = INDEX", "clearIdle 0 2147483647 = INDEX", "undo = -1", "factCount 0 = 6");
    }

    private static void changesOfRules() {
        Script.promise("9: addRule", "addRule 0 3 3 0 = 2", "ruleCount = 3", "isIdle 2 = true", "firings 2 = 0",
            "rowCount 0 = 6", "addRule 2 3 0 0 = 3", "ruleCount = 4", "addRule 1 0 0 0 = 4", "addRule 1 0 0 0 = STATE",
            "addRule 1 4 0 0 = ARGUMENT", "addRule 3 4 0 0 = INDEX", "ruleCount = 5", "undo = 2", "ruleCount = 4");
        Script.promise("9: wrong inputs", "addRule 3 0 0 0 = INDEX", "addRule -1 9 9 9 = INDEX", "addRule 0 0 1 2 = ARGUMENT",
            "addRule 0 0 4 0 = ARGUMENT", "addRule 0 4 0 0 = ARGUMENT", "addRule 0 -1 0 0 = ARGUMENT",
            "addRule 2 0 1 0 = ARGUMENT", "addRule 2 0 0 1 = ARGUMENT", "ruleCount = 2", "undo = -1");

        Script.promise("10: addRuleAtom", "addRule 2 1 0 0 = 2", "addRuleAtom 2 0 0 1 0 false = 1", "rowCount 2 = 5",
            "firings 2 = 6", "addRuleAtom 2 0 1 0 0 false = 2", "rowCount 2 = 3", "addRuleAtom 2 0 1 1 0 true = 3",
            "rowCount 2 = 3", "addRuleAtom 2 1 0 0 0 true = 4", "rowCount 2 = 1", "addRuleAtom 2 1 0 0 0 false = STATE",
            "addRuleAtom 2 1 0 0 0 true = STATE", "addRuleAtom 2 1 4 0 0 false = ARGUMENT", "ruleCount = 3");
        Script.promise("10: wrong inputs", "addRuleAtom 2 0 0 1 0 false = INDEX", "addRuleAtom -1 0 0 1 0 false = INDEX",
            "addRuleAtom 0 3 0 1 0 false = INDEX", "addRuleAtom 0 -1 9 9 9 true = INDEX",
            "addRuleAtom 2 0 9 9 9 true = INDEX", "addRuleAtom 0 0 0 4 0 false = ARGUMENT",
            "addRuleAtom 0 0 0 1 3 false = ARGUMENT", "addRuleAtom 0 2 1 1 0 true = ARGUMENT",
            "addRuleAtom 0 1 0 -1 0 true = ARGUMENT", "addRuleAtom 0 1 0 1 0 true = STATE", "rowCount 1 = 16", "undo = -1");

        Script.promise("11: dropRule", "dropRule 0 = 1", "ruleCount = 1", "rowCount 1 = 0", "firings 0 = 0",
            "addFact 1 0 1 0 = 1", "firings 0 = 6", "rowCount 1 = 5", "dropRule 1 = INDEX", "dropRule 0 = 0", "rowCount 1 = 1",
            "dropRule 0 = INDEX", "dropRule -1 = INDEX", "undo = 2", "undo = 1", "undo = 0", "rowCount 1 = 16");
        Script.promise("11: those behind it", "addRule 2 0 0 0 = 2", "addRuleAtom 2 0 3 0 0 false = 1",
            "addRuleAtom 2 1 3 3 0 true = 2", "isIdle 2 = false", "addRule 0 1 2 0 = 3", "isIdle 3 = true", "dropRule 1 = 3",
            "isIdle 1 = false", "isIdle 2 = true", "isIdle 3 = INDEX", "firings 1 = 6", "layerOf 2 = 1", "dropRule 1 = 2",
            "isIdle 1 = true", "layerOf 2 = 0", "addRule 2 0 0 0 = 2", "isIdle 2 = true", "addRuleAtom 2 2 0 0 0 false = 1");
    }

    private static void layersRefused() {
        Script.promise("10: no table stands above itself", "addRule 0 0 1 0 = 2", "addRuleAtom 2 0 0 1 0 true = STATE",
            "addRuleAtom 2 1 0 1 0 true = STATE", "addRuleAtom 2 0 0 1 0 false = 1", "addRuleAtom 2 2 0 0 0 true = 2",
            "layerOf 0 = 1", "layerOf 1 = 1", "layerOf 2 = 0", "addRule 2 0 0 0 = 3", "addRuleAtom 3 0 0 1 0 false = STATE",
            "addRuleAtom 3 1 0 1 0 false = STATE", "addRuleAtom 3 2 0 0 0 false = 1", "dropRule 2 = 3",
            "addRuleAtom 2 0 0 1 0 false = 2");
        Script.promise("10: a round way over many tables", "addTable 1 = 3", "addTable 1 = 4", "dropRule 1 = 1", "dropRule 0 = 0",
            "addRule 0 0 0 0 = 0", "addRule 1 0 0 0 = 1", "addRule 2 0 0 0 = 2", "addRule 3 0 0 0 = 3", "addRule 4 0 0 0 = 4",
            "addRuleAtom 0 1 0 0 0 false = 1", "addRuleAtom 1 2 0 0 0 false = 1", "addRuleAtom 2 3 0 0 0 false = 1",
            "addRuleAtom 3 4 0 0 0 false = 1", "addRuleAtom 4 0 0 0 0 true = STATE", "addRuleAtom 4 0 0 0 0 false = 1",
            "addRuleAtom 2 0 0 0 0 true = STATE", "layerOf 0 = 0", "layerOf 4 = 0");
        Script.promise("10: the highest layers", "addTable 1 = 3", "addTable 1 = 4", "dropRule 1 = 1", "dropRule 0 = 0",
            "addRule 0 0 0 0 = 0", "addRule 1 0 0 0 = 1", "addRule 2 0 0 0 = 2", "addRule 3 0 0 0 = 3", "addRule 4 0 0 0 = 4",
            "addRuleAtom 0 1 0 0 0 true = 1", "addRuleAtom 1 2 0 0 0 true = 1", "addRuleAtom 2 3 0 0 0 true = 1",
            "addRuleAtom 3 4 0 0 0 true = 1", "layerOf 0 = 4", "layerOf 1 = 3", "layerOf 2 = 2", "layerOf 3 = 1", "layerOf 4 = 0",
            "addRuleAtom 4 0 0 0 0 false = STATE", "addRuleAtom 4 3 0 0 0 false = STATE", "addRuleAtom 4 4 0 0 0 true = STATE",
            "addRuleAtom 4 4 0 0 0 false = 1", "layerOf 0 = 4");
    }

    private static void undo() {
        Script.promise("12: the latest first", "undo = -1", "addFact 0 7 7 0 = 7", "setOrder 0 3210 = 123", "undo = 1",
            "isFact 0 7 7 0 = true", "setOrder 0 123 = 123", "undo = 1", "undo = 0", "isFact 0 7 7 0 = false", "undo = -1",
            "undo = -1", "factCount 0 = 6");
        Script ten = Script.promise("12: ten changes");
        for (int n = 0; n < 8; n++) {
            ten.says("addFact 1 " + n + " 7 0 = " + (n + 1));
        }
        for (int n = 0; n < 8; n++) {
            ten.says("addFact 1 " + n + " 6 0 = " + (n + 9));
        }
        ten.says("addFact 1 0 7 0 = STATE", "removeFact 1 5 5 0 = NOSUCH");
        for (int n = 9; n >= 0; n--) {
            ten.says("undo = " + n, "factCount 1 = " + (n + 6));
        }
        ten.says("undo = -1", "factCount 1 = 6", "isFact 1 5 7 0 = true", "isFact 1 6 7 0 = false", "addFact 1 6 7 0 = 7",
            "undo = 0", "undo = -1");
        Script.promise("12: changes behind an undo", "addFact 1 0 0 0 = 1", "addFact 1 0 1 0 = 2", "undo = 1",
            "addFact 1 0 2 0 = 2", "addFact 1 0 3 0 = 3", "undo = 2", "undo = 1", "undo = 0", "factCount 1 = 0", "undo = -1");
        Script.promise("12: undoing is no change", "addFact 1 0 0 0 = 1", "undo = 0", "undo = -1", "factCount 1 = 0");
    }

    private static void undoOfEachChange() {
        Script.promise("12: addTable", "addTable 3 = 3", "undo = 0", "tableCount = 3", "columns 3 = INDEX", "addTable 1 = 3",
            "columns 3 = 1", "factCount 3 = 0");
        Script.promise("12: facts of a table that went", "addTable 3 = 3", "addFact 3 1 2 3 = 1", "undo = 1", "undo = 0",
            "addTable 3 = 3", "factCount 3 = 0", "rowCount 3 = 0");
        Script.promise("12: removeFact", "removeFact 2 3 0 0 = 0", "answers 1 = 0", "undo = 0", "answers 1 = 3");
        Script.promise("12: addAtom", "addAtom 0 0 0 0 0 = 3", "answers 0 = 0", "undo = 0", "atomCount 0 = 3", "answers 0 = 3");
        Script.promise("12: clearQuery", "clearQuery 0 = 3", "addAtom 0 2 1 0 0 = 0", "answers 0 = 1", "undo = 1", "undo = 0",
            "atomCount 0 = 3", "answers 0 = 3", "leaps 0 = 41");
        Script.promise("12: setOrder", "setOrder 0 3210 = 123", "answerAt 0 0 0 = 1", "undo = 0", "answerAt 0 0 0 = 0");
        Script.promise("12: setOrder to the same", "setOrder 0 123 = 123", "undo = 0", "undo = -1");
        Script.promise("12: clearQuery without atoms", "clearQuery 3 = 0", "undo = 0", "undo = -1");
        Script.promise("12: clearIdle", "clearIdle 0 0 = 3", "undo = 0", "factCount 0 = 6", "isFact 0 3 4 0 = true",
            "clearIdle 1 1 = 0", "undo = 0");
        Script.promise("12: addRule", "addRule 2 0 0 0 = 2", "undo = 0", "ruleCount = 2", "isIdle 2 = INDEX");
        Script.promise("12: addRuleAtom", "addRuleAtom 0 0 1 0 0 false = 2", "firings 0 = 2", "undo = 0", "firings 0 = 6",
            "addRuleAtom 0 0 1 0 0 false = 2");
        Script.promise("12: dropRule", "dropRule 0 = 1", "rowCount 1 = 0", "undo = 0", "ruleCount = 2", "firings 0 = 6",
            "firings 1 = 18", "rowCount 1 = 16");
    }

    /** Calls that throw are no changes, and calls that only read are none. */
    private static void refusedChangesNothing() {
        Script.promise("12: what is no change", "addTable 4 = ARGUMENT", "addFact 0 0 1 0 = STATE", "removeFact 0 7 7 0 = NOSUCH",
            "addAtom 0 9 0 0 0 = INDEX", "clearQuery 9 = INDEX", "setOrder 0 7 = ARGUMENT", "clearIdle 0 9 = INDEX",
            "addRule 0 9 0 0 = ARGUMENT", "addRuleAtom 0 1 0 1 0 true = STATE", "dropRule 2 = INDEX", "answers 0 = 3",
            "checksum = 26425950", "seek 0 0 0 0 0 = 0", "undo = -1", "checksum = 26425950");
    }
}
