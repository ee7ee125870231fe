/** Each sentence of the promises 1 to 12: a new object, the changes, undo. */
public final class Promises1To12Test {
    public static void main(String[] args) {
        newObject();
        addTable();
        addFact();
        removeFact();
        addAtom();
        clearQuery();
        setOrder();
        clearIdle();
        addRule();
        addRuleAtom();
        dropRule();
        undo();
        Script.endOf("promise", 1, 12);
    }

    private static Script sentence(int promise, String words, String... lines) {
        return Script.sentence("promise " + promise, words, lines);
    }

    /** A run in which a table has the 60 facts 0 0, 0 1 and so on. */
    private static Script full(int promise, String words, int table) {
        Script script = sentence(promise, words);
        for (int n = 0; n < 60; n++) {
            script.says("addFact " + table + " " + n / 8 + " " + n % 8 + " 0 = " + (n + 1));
        }
        return script;
    }

    private static void newObject() {
        sentence(1, "Creates three tables: 0 with two columns and the facts 0 1, 0 2, 1 2, 2 0, 2 3, 3 4;",
            "tableCount = 3", "columns 0 = 2", "factCount 0 = 6", "isFact 0 0 {1 2} 0 = true", "isFact 0 1 2 0 = true",
            "isFact 0 2 {0 3} 0 = true", "isFact 0 3 4 0 = true", "columns 3 = INDEX");
        sentence(1, "1 with two columns and no facts;", "columns 1 = 2", "factCount 1 = 0", "isFact 1 0 1 0 = false");
        sentence(1, "2 with one column and the fact 3.", "columns 2 = 1", "factCount 2 = 1", "isFact 2 3 0 0 = true",
            "isFact 2 {0 1 2 4 5 6 7} 0 0 = false");
        sentence(1, "The rule 0: the table 1 with 0 1, and the atom table 0 with 0 1;", "ruleCount = 2",
            "isIdle 0 = false", "dropRule 1 = 1", "rowCount 1 = 6", "firings 0 = 6", "reasons 1 0 {1 2} 0 = 1",
            "reasons 1 1 2 0 = 1", "reasons 1 2 {0 3} 0 = 1", "reasons 1 3 4 0 = 1", "addRuleAtom 0 0 1 0 0 false = 2",
            "firings 0 = 2");
        sentence(1, "the rule 1: the table 1 with 0 2, and the atoms table 1 with 0 1 and table 0 with 1 2.",
            "isIdle 1 = false", "firings 1 = 18", "dropRule 0 = 1", "rowCount 1 = 0", "addFact 1 7 1 0 = 1",
            "rowCount 1 = 5", "reasons 1 7 2 0 = 2", "reasons 1 7 4 0 = 1", "addRuleAtom 0 0 0 1 0 false = 3",
            "addRuleAtom 0 0 0 1 0 false = 4", "addRuleAtom 0 0 0 1 0 false = STATE");
        sentence(1, "The query 0: table 0 with 0 1, table 0 with 1 2, table 0 with 2 0;", "atomCount 0 = 3",
            "answers 0 = 3", "leaps 0 = 41", "answerAt 0 0 0 = 0", "answerAt 0 0 1 = 1", "answerAt 0 0 2 = 2",
            "isTree 0 = false", "cover 0 = 3", "bound 0 = 216", "addFact 0 4 4 0 = 7", "answers 0 = 4");
        sentence(1, "the query 1: table 1 with 0 1, table 2 with 1.", "atomCount 1 = 2", "answers 1 = 3",
            "leaps 1 = 19", "groups 1 1 = 1", "answerAt 1 {0 1 2} 1 = 3", "groups 1 2 = INDEX", "bound 1 = 256",
            "addFact 2 4 0 0 = 2", "answers 1 = 7", "atomCount {2 3} = 0");
        sentence(1, "Nothing can be undone.", "undo = -1", "undo = -1", "checksum = 26425950", "ruleCount = 2",
            "tableCount = 3");
    }

    private static void addTable() {
        sentence(2, "Adds a table without facts.", "addTable 2 = 3", "tableCount = 4", "factCount 3 = 0",
            "rowCount 3 = 0", "rowAt 3 0 0 = INDEX", "firstFrom 3 0 0 0 = NOSUCH", "lower 3 8 = NOSUCH",
            "values 3 {0 1} = 0", "layerOf 3 = 0", "checksum = 26425950");
        sentence(2, "`columns`: 1 to 3", "addTable 1 = 3", "columns 3 = 1", "addTable 3 = 4", "columns 4 = 3",
            "undo = 1", "addTable 2 = 4", "columns 4 = 2");
        sentence(2, "its number.", "addTable 1 = 3", "addTable 1 = 4", "undo = 1", "undo = 0", "addTable 3 = 3");
        sentence(2, "if columns is out of range").refuses("addTable {0 4 -1 MAX MIN} = ARGUMENT").says("undo = -1",
            "addTable 1 = 3", "addTable 3 = 4", "addTable {0 4} = ARGUMENT");
        sentence(2, "if there are 5 tables", "addTable 1 = 3", "addTable 2 = 4").refuses(
            "addTable {1 2 3} = STATE").says("tableCount = 5", "undo = 1", "addTable 3 = 4", "addTable 1 = STATE");
    }

    private static void addFact() {
        sentence(3, "Tells a fact.", "isFact 1 7 6 0 = false", "addFact 1 7 6 0 = 1", "isFact 1 7 6 0 = true",
            "isFact 1 6 7 0 = false", "rowCount 1 = 17", "reasons 1 7 6 0 = 1", "isFact 0 7 6 0 = false",
            "addTable 3 = 3", "addFact 3 5 6 7 = 1", "isFact 3 5 6 7 = true", "isFact 3 5 6 6 = false",
            "isFact 3 4 6 7 = false", "isFact 3 5 5 7 = false");
        sentence(3, "`table`: number of a table // if there is no such table").refuses(
            "addFact {-1 3 4 5 MAX MIN} 0 0 0 = INDEX", "addFact 3 8 8 8 = INDEX").says("addTable 1 = 3",
            "addFact 3 0 0 0 = 1", "addFact 4 0 0 0 = INDEX");
        sentence(3, "`a`: see section 1 // `b`: see section 1 // `c`: see section 1", "addTable 3 = 3",
            "addFact 3 7 0 0 = 1", "addFact 3 0 7 0 = 2", "addFact 3 0 0 7 = 3", "addFact 3 0 0 0 = 4",
            "addFact 3 7 7 7 = 5", "addFact 0 7 7 0 = 7", "addFact 0 0 0 0 = 8", "addFact 2 7 0 0 = 2",
            "addFact 2 0 0 0 = 3");
        sentence(3, "the number of facts of the table.", "addFact 0 0 0 0 = 7", "addFact 2 0 0 0 = 2",
            "addFact 1 0 1 0 = 1", "addFact 0 0 3 0 = 8", "factCount 0 = 8", "removeFact 0 0 3 0 = 7",
            "addFact 0 0 4 0 = 8");
        sentence(3, "if the row is not as told", "addTable 3 = 3").refuses("addFact 0 {8 -1 MAX MIN} 0 0 = ARGUMENT",
            "addFact 0 0 {8 -1 MAX MIN} 0 = ARGUMENT", "addFact 0 0 0 {1 7 -1 MAX MIN} = ARGUMENT",
            "addFact 2 0 {1 -1} 0 = ARGUMENT", "addFact 2 0 0 {1 -1} = ARGUMENT", "addFact 3 {8 -1} 0 0 = ARGUMENT",
            "addFact 3 0 {8 -1} 0 = ARGUMENT", "addFact 3 0 0 {8 -1 MAX MIN} = ARGUMENT", "addFact 0 0 1 1 = ARGUMENT");
        sentence(3, "if it is a fact").refuses("addFact 0 0 1 0 = STATE", "addFact 0 3 4 0 = STATE",
            "addFact 2 3 0 0 = STATE").says("addFact 1 0 1 0 = 1", "addFact 1 0 1 0 = STATE", "undo = 0",
            "addFact 1 0 1 0 = 1", "addTable 3 = 3", "addFact 3 7 7 7 = 1", "addFact 3 7 7 7 = STATE",
            "addFact 3 7 7 6 = 2");
        full(3, ", or the table has 60", 1).refuses("addFact 1 7 {4 7} 0 = STATE", "addFact 1 7 3 0 = STATE").says(
            "removeFact 1 0 0 0 = 59", "addFact 1 7 7 0 = 60", "addFact 1 0 0 0 = STATE", "undo = 9",
            "addFact 1 0 0 0 = 60", "addFact 0 7 7 0 = 7");
    }

    private static void removeFact() {
        sentence(4, "Takes a fact back.", "removeFact 0 2 0 0 = 5", "isFact 0 2 0 0 = false", "isFact 0 0 2 0 = true",
            "rowCount 0 = 5", "answers 0 = 0", "rowCount 1 = 10", "addTable 3 = 3", "addFact 3 1 2 3 = 1",
            "addFact 3 1 2 4 = 2", "removeFact 3 1 2 3 = 1", "isFact 3 1 2 3 = false", "isFact 3 1 2 4 = true");
        sentence(4, "`table`: number of a table // if there is no such table").refuses(
            "removeFact {-1 3 4 5 MAX MIN} 0 1 0 = INDEX", "removeFact 3 8 8 8 = INDEX").says("removeFact 2 3 0 0 = 0");
        sentence(4, "`a`: see section 1 // `b`: see section 1 // `c`: see section 1", "addTable 3 = 3",
            "addFact 3 0 0 0 = 1", "addFact 3 7 7 7 = 2", "removeFact 3 7 7 7 = 1", "removeFact 3 0 0 0 = 0",
            "removeFact 0 0 1 0 = 5");
        sentence(4, "the number of facts that are left.", "removeFact 0 0 1 0 = 5", "removeFact 0 0 2 0 = 4",
            "removeFact 0 1 2 0 = 3", "removeFact 0 2 0 0 = 2", "removeFact 0 2 3 0 = 1", "removeFact 0 3 4 0 = 0",
            "removeFact 2 3 0 0 = 0", "factCount 0 = 0");
        sentence(4, "if the row is not as told", "addTable 3 = 3").refuses("removeFact 0 {8 -1 MAX MIN} 1 0 = ARGUMENT",
            "removeFact 0 0 {8 -1 MAX MIN} 0 = ARGUMENT", "removeFact 0 0 1 {1 7 -1 MAX MIN} = ARGUMENT",
            "removeFact 2 3 {1 -1} 0 = ARGUMENT", "removeFact 2 3 0 {1 -1} = ARGUMENT",
            "removeFact 3 0 0 {8 -1} = ARGUMENT");
        // 0 1 of table 1 is a row that the rules add, but no fact.
        sentence(4, "if it is no fact").refuses("removeFact 0 7 7 0 = NOSUCH", "removeFact 0 1 0 0 = NOSUCH",
            "removeFact 1 0 1 0 = NOSUCH", "removeFact 2 {0 2 4 7} 0 0 = NOSUCH").says("removeFact 0 0 1 0 = 5",
            "removeFact 0 0 1 0 = NOSUCH", "addTable 1 = 3", "removeFact 3 0 0 0 = NOSUCH");
        full(4, "the number of facts that are left.", 1).says("removeFact 1 7 3 0 = 59", "removeFact 1 0 0 0 = 58",
            "factCount 1 = 58");
    }

    private static void addAtom() {
        sentence(5, "Adds an atom to a query.", "addAtom 0 2 0 0 0 = 3", "atomCount 0 = 4", "answers 0 = 0",
            "atomCount {2 3} = 0", "addAtom 2 0 3 1 0 = 0", "answers 2 = 6", "answerAt 2 0 3 = 2",
            "answerAt 2 0 1 = 0");
        sentence(5, "`query`: 0 to 3", "addAtom 3 2 0 0 0 = 0", "answers 3 = 1", "addAtom 0 2 0 0 0 = 3",
            "addAtom 1 2 0 0 0 = 2", "addAtom 2 2 0 0 0 = 0");
        sentence(5, "`table`: number of a table", "addAtom 2 0 0 1 0 = 0", "addAtom 2 1 0 1 0 = 1",
            "addAtom 2 2 0 0 0 = 2", "addTable 3 = 3", "addAtom 2 3 0 1 2 = 3", "addAtom 2 4 0 0 0 = INDEX");
        sentence(5, "if there is no such query or table").refuses("addAtom {-1 4 5 MAX MIN} 0 0 1 0 = INDEX",
            "addAtom 0 {-1 3 4 5 MAX MIN} 0 1 0 = INDEX", "addAtom 4 3 0 1 0 = INDEX", "addAtom {4 0} 3 9 9 9 = INDEX");
        sentence(5, "`a`: see section 2 // `b`: see section 2 // `c`: see section 2", "addTable 3 = 3",
            "addFact 3 4 5 6 = 1", "addAtom 2 3 3 0 2 = 0", "answerAt 2 0 3 = 4", "answerAt 2 0 0 = 5",
            "answerAt 2 0 2 = 6", "addAtom 2 3 3 0 3 = 1", "answers 2 = 0");
        sentence(5, "the number of the atom.", "addAtom 2 0 0 1 0 = 0", "addAtom 2 0 0 1 0 = 1",
            "addAtom 2 0 0 1 0 = 2", "addAtom 2 0 0 1 0 = 3", "addAtom 2 0 0 1 0 = 4", "addAtom 3 0 0 1 0 = 0",
            "clearQuery 2 = 5", "addAtom 2 0 0 1 0 = 0");
        sentence(5, "if the variables are not as told", "addTable 3 = 3").refuses(
            "addAtom 0 0 {4 -1 MAX MIN} 0 0 = ARGUMENT", "addAtom 0 0 0 {4 -1 MAX MIN} 0 = ARGUMENT",
            "addAtom 0 0 0 1 {1 3 -1 MAX MIN} = ARGUMENT", "addAtom 0 2 0 {1 -1} 0 = ARGUMENT",
            "addAtom 0 2 0 0 {1 -1} = ARGUMENT", "addAtom 0 3 0 1 {4 -1} = ARGUMENT");
        sentence(5, "if the query has 5 atoms", "addAtom 0 0 0 1 0 = 3", "addAtom 0 2 3 0 0 = 4").refuses(
            "addAtom 0 0 0 1 0 = STATE", "addAtom 0 2 0 0 0 = STATE").says("addAtom 1 0 0 1 0 = 2", "undo = 2",
            "undo = 1", "addAtom 0 2 1 0 0 = 4", "addAtom 0 2 1 0 0 = STATE");
    }

    private static void clearQuery() {
        sentence(6, "Takes all atoms of a query away", "clearQuery 0 = 3", "atomCount 0 = 0", "answers 0 = 0",
            "leaps 0 = 0", "groups 0 {0 1 2} = INDEX", "idleRows 0 0 = INDEX", "isTree 0 = true", "cover 0 = 0",
            "bound 0 = 1", "atomCount 1 = 2", "answers 1 = 3", "addAtom 0 2 3 0 0 = 0", "answers 0 = 1",
            "groups 0 0 = INDEX");
        sentence(6, "Takes all atoms of a query away", "leaps 0 = 41", "clearQuery 0 = 3", "addAtom 0 0 0 1 0 = 0",
            "answers 0 = 6", "leaps 0 = 15", "isTree 0 = true", "cover 0 = 2", "bound 0 = 36", "groups 0 2 = INDEX",
            "idleRows 0 0 = 0", "errors = 0");
        sentence(6, "; its order stays.", "setOrder 0 3201 = 123", "clearQuery 0 = 3", "addAtom 0 0 0 1 0 = 0",
            "answerAt 0 0 0 = 0", "setOrder 0 123 = 3201", "setOrder 2 1032 = 123", "clearQuery 2 = 0",
            "addAtom 2 0 0 1 0 = 0", "answerAt 2 0 1 = 0", "answerAt 2 0 0 = 2", "setOrder 2 123 = 1032");
        sentence(6, "`query`: 0 to 3", "clearQuery 0 = 3", "clearQuery 1 = 2", "clearQuery {2 3} = 0");
        sentence(6, "how many there were.", "addAtom 3 0 0 1 0 = 0", "clearQuery 3 = 1", "clearQuery 3 = 0",
            "addAtom 0 0 0 1 0 = 3", "addAtom 0 0 0 1 0 = 4", "clearQuery 0 = 5", "clearQuery 0 = 0", "undo = 6",
            "undo = 5", "atomCount 0 = 5");
        sentence(6, "if there is no such query").refuses("clearQuery {-1 4 5 MAX MIN} = INDEX");
    }

    private static void setOrder() {
        sentence(7, "Sets the order of a query.", "setOrder 0 2013 = 123", "answerAt 0 0 2 = 0", "answerAt 0 0 0 = 1",
            "answerAt 0 1 2 = 1", "setOrder 1 1023 = 123", "answerAt 1 0 1 = 3", "answerAt 1 0 0 = 0", "leaps 1 = 8");
        sentence(7, "`query`: 0 to 3", "setOrder {0 1 2 3} 1023 = 123", "setOrder {0 1 2 3} 123 = 1023");
        sentence(7, "`order`: see section 2", "setOrder 3 123 = 123", "setOrder 3 3210 = 123", "setOrder 3 132 = 3210",
            "setOrder 3 1230 = 132", "setOrder 3 321 = 1230", "setOrder 3 213 = 321");
        sentence(7, "the order before.", "setOrder 3 3210 = 123", "setOrder 3 3210 = 3210", "setOrder 3 1032 = 3210",
            "undo = 2", "setOrder 3 123 = 3210", "setOrder 2 123 = 123");
        sentence(7, "if there is no such query").refuses("setOrder {-1 4 5 MAX MIN} 123 = INDEX",
            "setOrder 4 0 = INDEX");
        sentence(7, "if it is no order").refuses("setOrder 0 {0 12 122 124 1 -1 -123 -3210 MAX MIN} = ARGUMENT",
            "setOrder 0 {1234 3211 3333 10123 9123 4321 1239 13210 32100 1000} = ARGUMENT");
    }

    private static void clearIdle() {
        sentence(8,
            "Takes back all facts of the table of an atom that are idle: that the atom makes with no answer of the query.",
            "clearIdle 0 0 = 3", "isFact 0 0 1 0 = true", "isFact 0 1 2 0 = true", "isFact 0 2 0 0 = true",
            "isFact 0 0 2 0 = false", "isFact 0 2 3 0 = false", "isFact 0 3 4 0 = false", "answers 0 = 3",
            "clearIdle 0 {0 1 2} = 0");
        // Each atom makes rows of its own: with query 0 2, 2 0 the atom 0 makes 0 2 and 2 0; 5 5 fits the atom of one variable.
        sentence(8,
            "Takes back all facts of the table of an atom that are idle: that the atom makes with no answer of the query.",
            "addAtom 2 0 0 1 0 = 0", "addAtom 2 2 1 0 0 = 1", "clearIdle 2 1 = 0", "clearIdle 2 0 = 5",
            "isFact 0 2 3 0 = true", "undo = 3", "addFact 2 6 0 0 = 2", "clearIdle 2 1 = 1", "isFact 2 6 0 0 = false",
            "isFact 2 3 0 0 = true");
        sentence(8, "Takes back all facts of the table of an atom that are idle", "removeFact 2 3 0 0 = 0",
            "clearIdle 1 0 = 0", "addFact 1 7 7 0 = 1", "clearIdle 1 0 = 1", "clearIdle 1 1 = 0",
            "addAtom 0 2 0 0 0 = 3", "clearIdle 0 0 = 6", "rowCount {0 1} = 0");
        // The facts of the tables beside it stay.
        sentence(8, "Takes back all facts of the table of an atom that are idle", "addFact 1 0 5 0 = 1",
            "addFact 1 7 5 0 = 2", "clearIdle 0 0 = 3", "factCount 1 = 2", "factCount 2 = 1", "addFact 0 7 7 0 = 4",
            "addFact 2 0 0 0 = 2", "addAtom 2 1 3 3 0 = 0", "clearIdle 2 0 = 2", "isFact 0 7 7 0 = true",
            "isFact 2 {0 3} 0 0 = true", "factCount 0 = 4", "factCount 1 = 0");
        sentence(8, "(Rows that rules add stay as the rules make them then.)", "addFact 1 3 4 0 = 1",
            "addFact 1 2 3 0 = 2", "addFact 1 5 3 0 = 3", "addFact 1 6 6 0 = 4", "rowCount 1 = 19", "clearIdle 1 0 = 2",
            "isFact 1 {2 5} 3 0 = true", "isFact 1 3 4 0 = false", "reasons 1 3 4 0 = 1", "rowCount 1 = 18",
            "clearIdle 0 0 = 3", "rowCount 1 = 11", "undo = 5", "rowCount 1 = 18");
        sentence(8, "`query`: 0 to 3", "clearIdle 1 1 = 0", "clearIdle 0 0 = 3", "addAtom 3 2 0 0 0 = 0",
            "clearIdle 3 0 = 0");
        sentence(8, "`atom`: number of an atom of the query", "addFact 2 7 0 0 = 2", "clearIdle 1 1 = 1", "undo = 1",
            "clearIdle 1 0 = 0", "undo = 1", "clearIdle 0 2 = 3", "undo = 1", "addAtom 1 0 0 1 0 = 2",
            "clearIdle 1 2 = 5");
        sentence(8, "how many facts were taken back.", "clearIdle 0 1 = 3", "factCount 0 = 3", "clearIdle 0 1 = 0",
            "undo = 1", "undo = 0", "factCount 0 = 6", "clearIdle 1 0 = 0", "rowCount 1 = 16");
        full(8, "how many facts were taken back.", 1).says("addAtom 2 1 0 0 0 = 0", "clearIdle 2 0 = 53",
            "factCount 1 = 7", "isFact 1 7 7 0 = false", "isFact 1 6 6 0 = true", "addFact 1 7 7 0 = 8", "undo = 9",
            "undo = 8", "factCount 1 = 60");
        sentence(8, "if there is no such query or atom").refuses("clearIdle {-1 4 5 MAX MIN} 0 = INDEX",
            "clearIdle 0 {-1 3 4 5 MAX MIN} = INDEX", "clearIdle 1 2 = INDEX", "clearIdle {2 3} 0 = INDEX");
    }

    private static void addRule() {
        sentence(9, "Adds a rule without atoms.", "addRule 0 0 1 0 = 2", "ruleCount = 3", "isIdle 2 = true",
            "firings 2 = 0", "rounds = 4", "addRuleAtom 2 0 1 0 0 false = 1", "isIdle 2 = false", "rowCount 0 = 10",
            "undo = 1", "undo = 0", "addRule 0 0 1 0 = 2", "isIdle 2 = true");
        sentence(9, "Adds a rule without atoms.", "addRule 2 1 0 0 = 2", "addRuleAtom 2 0 0 1 0 false = 1",
            "addRuleAtom 2 0 1 0 0 true = 2", "firings 2 = 4", "layerOf 2 = 1", "dropRule 2 = 2", "addRule 2 1 0 0 = 2",
            "isIdle 2 = true", "layerOf 2 = 0", "rowCount 2 = 1", "addRuleAtom 2 0 0 1 0 false = 1", "firings 2 = 6",
            "layerOf 2 = 0", "rowCount 2 = 5");
        sentence(9, "`table`: the table of its head", "addTable 3 = 3", "addRule 3 0 0 0 = 2",
            "addRuleAtom 2 2 0 0 0 false = 1", "rowCount 3 = 1", "reasons 3 3 3 3 = 1", "addRule 0 0 0 0 = 3",
            "addRuleAtom 3 2 0 0 0 false = 1", "reasons 0 3 3 0 = 1");
        sentence(9, "`a`: variables of the head, see section 2 // `b`: likewise // `c`: likewise", "addTable 3 = 3",
            "addRule 3 1 3 0 = 2", "addRuleAtom 2 0 0 1 0 false = 1", "addRuleAtom 2 2 3 0 0 false = 2",
            "reasons 3 1 3 0 = 1", "reasons 3 4 3 3 = 1", "reasons 3 3 4 3 = 0", "rowCount 3 = 6");
        sentence(9, "the number of the rule.", "addRule 0 0 0 0 = 2", "addRule 0 0 0 0 = 3", "addRule 0 0 0 0 = 4",
            "dropRule 1 = 4", "addRule 0 0 0 0 = 4", "undo = 4", "undo = 3", "dropRule 0 = 4", "dropRule 0 = 3",
            "addRule 0 0 0 0 = 3");
        sentence(9, "if there is no such table").refuses("addRule {-1 3 4 5 MAX MIN} 0 0 0 = INDEX",
            "addRule 3 9 9 9 = INDEX");
        sentence(9, "if the variables are not as told", "addTable 3 = 3").refuses(
            "addRule 0 {4 -1 MAX MIN} 0 0 = ARGUMENT", "addRule 0 0 {4 -1 MAX MIN} 0 = ARGUMENT",
            "addRule 0 0 1 {1 3 -1 MAX MIN} = ARGUMENT", "addRule 2 0 {1 -1} 0 = ARGUMENT",
            "addRule 2 0 0 {1 -1} = ARGUMENT", "addRule 3 0 1 {4 -1} = ARGUMENT");
        sentence(9, "if there are 5 rules", "addRule 0 0 0 0 = 2", "addRule 0 0 0 0 = 3",
            "addRule 0 0 0 0 = 4").refuses("addRule 0 0 0 0 = STATE", "addRule 2 3 0 0 = STATE").says("ruleCount = 5",
            "dropRule 4 = 4", "addRule 2 3 0 0 = 4", "addRule 2 3 0 0 = STATE");
    }

    private static void addRuleAtom() {
        sentence(10, "Adds an atom to a rule.", "addRuleAtom 0 2 1 0 0 false = 2", "firings 0 = 1", "firings 1 = 1",
            "rowCount 1 = 2", "reasons 1 2 3 0 = 1", "addRuleAtom 1 2 2 0 0 false = 3", "rowCount 1 = 1");
        sentence(10, "`rule`: number of a rule", "addRuleAtom 1 2 2 0 0 false = 3", "firings 1 = 2",
            "addRule 2 0 0 0 = 2", "addRuleAtom 2 0 0 1 0 false = 1", "firings 2 = 6",
            "addRuleAtom 3 0 0 1 0 false = INDEX");
        sentence(10, "`table`: number of a table", "addRuleAtom 0 2 0 0 0 false = 2", "firings 0 = 1", "addTable 3 = 3",
            "addRuleAtom 0 3 0 0 0 false = 3", "firings 0 = 0", "addRuleAtom 0 4 0 0 0 false = INDEX");
        sentence(10, "if there is no such rule or table").refuses(
            "addRuleAtom {-1 2 3 5 MAX MIN} 0 0 1 0 {true false} = INDEX",
            "addRuleAtom 0 {-1 3 4 5 MAX MIN} 0 1 0 {true false} = INDEX", "addRuleAtom 2 3 0 1 0 true = INDEX",
            "addRuleAtom {2 0} 3 9 9 9 true = INDEX");
        sentence(10, "`a`: see section 2 // `b`: see section 2 // `c`: see section 2", "addTable 3 = 3",
            "addFact 3 2 0 5 = 1", "addRule 0 0 1 0 = 2", "addRuleAtom 2 3 1 3 0 false = 1", "reasons 0 5 2 0 = 1",
            "rowCount 0 = 7", "addRuleAtom 2 3 0 3 1 false = 2", "rowCount 0 = 6", "addFact 3 5 0 2 = 2",
            "rowCount 0 = 8");
        sentence(10, "`isNot`: true for an atom with not", "addRule 2 1 0 0 = 2", "addRuleAtom 2 0 0 1 0 false = 1",
            "rowCount 2 = 5", "addRuleAtom 2 0 1 0 0 true = 2", "rowCount 2 = 4", "firings 2 = 4", "undo = 2",
            "addRuleAtom 2 0 1 0 0 false = 2", "rowCount 2 = 3", "firings 2 = 2", "layerOf 2 = 0");
        sentence(10, "the number of atoms of the rule.", "addRuleAtom 0 0 0 1 0 false = 2",
            "addRuleAtom 0 0 0 1 0 true = 3", "addRuleAtom 0 0 0 1 0 false = 4", "addRuleAtom 1 0 0 1 0 false = 3",
            "addRuleAtom 1 0 0 1 0 true = 4", "addRule 0 0 0 0 = 2", "addRuleAtom 2 2 0 0 0 true = 1");
        sentence(10, "if the variables are not as told", "addTable 3 = 3").refuses(
            "addRuleAtom 0 0 {4 -1 MAX MIN} 0 0 false = ARGUMENT", "addRuleAtom 0 0 0 {4 -1 MAX MIN} 0 true = ARGUMENT",
            "addRuleAtom 0 0 0 1 {1 3 -1 MAX MIN} false = ARGUMENT", "addRuleAtom 0 2 0 {1 -1} 0 true = ARGUMENT",
            "addRuleAtom 0 2 0 0 {1 -1} false = ARGUMENT", "addRuleAtom 0 3 0 1 {4 -1} false = ARGUMENT");
        sentence(10, "if the rule has 4 atoms", "addRuleAtom 0 0 0 1 0 false = 2", "addRuleAtom 0 2 0 0 0 true = 3",
            "addRuleAtom 0 2 1 0 0 true = 4").refuses("addRuleAtom 0 0 0 1 0 {true false} = STATE",
            "addRuleAtom 0 2 0 0 0 {true false} = STATE").says("addRuleAtom 1 0 0 1 0 false = 3", "undo = 3",
            "undo = 2", "addRuleAtom 0 2 0 0 0 false = 4", "addRuleAtom 0 2 0 0 0 false = STATE");
        sentence(10, ", or there would be no layers", "addRule 0 0 0 0 = 2").refuses(
            "addRuleAtom 2 0 0 1 0 true = STATE", "addRuleAtom 2 1 0 1 0 true = STATE",
            "addRuleAtom {0 1} 1 0 1 0 true = STATE").says("addRuleAtom 2 1 0 0 0 false = 1",
            "addRuleAtom 1 0 0 1 0 true = STATE", "dropRule 2 = 2", "addRuleAtom 1 0 0 1 0 true = 3",
            "isIdle 1 = false");
    }

    private static void dropRule() {
        sentence(11, "Takes a rule away", "dropRule 0 = 1", "firings 0 = 0", "rowCount 1 = 0", "rounds = 1", "undo = 0",
            "rowCount 1 = 16", "dropRule 1 = 1", "rowCount 1 = 6", "firings 0 = 6", "dropRule 0 = 0", "rowCount 1 = 0",
            "rounds = 0");
        sentence(11, "; those behind it get a number that is 1 less.", "addRule 2 0 0 0 = 2", "addRule 0 3 3 0 = 3",
            "addRuleAtom 3 2 3 0 0 false = 1", "addRule 2 1 0 0 = 4", "addRuleAtom 4 0 0 1 0 false = 1",
            "addRuleAtom 4 2 0 0 0 false = 2", "firings 3 = 2", "firings 4 = 3", "isIdle 2 = true", "dropRule 1 = 4",
            "isIdle 1 = true", "isIdle {0 2 3} = false", "isIdle 4 = INDEX", "firings 0 = 8", "firings 2 = 2",
            "firings 3 = 3", "addRuleAtom 3 2 1 0 0 false = 3", "addRuleAtom 1 2 0 0 0 false = 1", "dropRule 0 = 3",
            "isIdle {0 1 2} = false", "dropRule 2 = 2", "addRule 0 0 0 0 = 2", "isIdle 2 = true");
        sentence(11, "`rule`: number of a rule", "addRule 0 0 0 0 = 2", "addRule 0 0 0 0 = 3", "addRule 0 0 0 0 = 4",
            "dropRule 4 = 4", "dropRule 4 = INDEX", "dropRule 0 = 3", "dropRule 2 = 2");
        sentence(11, "how many rules are left.", "dropRule 1 = 1", "dropRule 0 = 0", "ruleCount = 0", "undo = 1",
            "undo = 0", "addRule 0 0 0 0 = 2", "dropRule 2 = 2");
        sentence(11, "if there is no such rule").refuses("dropRule {-1 2 3 4 5 MAX MIN} = INDEX").says("dropRule 0 = 1",
            "dropRule 1 = INDEX", "dropRule 0 = 0", "dropRule 0 = INDEX", "dropRule -1 = INDEX");
    }

    private static void undo() {
        sentence(12, "Undoes the latest change that can be undone.", "addFact 0 7 7 0 = 7", "setOrder 0 3210 = 123",
            "undo = 1", "isFact 0 7 7 0 = true", "answerAt 0 0 0 = 0", "undo = 0", "isFact 0 7 7 0 = false",
            "addFact 0 7 6 0 = 7", "undo = 0", "isFact 0 7 {6 7} 0 = false");
        Script ten = sentence(12, "the number of changes that can still be undone");
        for (int n = 0; n < 16; n++) {
            ten.says("addFact 1 " + n / 8 + " " + n % 8 + " 0 = " + (n + 1), "addFact 1 7 7 0 = " + (n + 2), "undo = "
                + Math.min(n + 1, 9), "factCount 1 = " + (n + 1), "isFact 1 7 7 0 = false");
        }
        sentence(12, "; -1, and nothing is different, if there was none to undo.").refuses("undo = -1").says(
            "addTable 1 = 3", "undo = 0").refuses("undo = -1").says("undo = -1", "setOrder 0 3210 = 123", "undo = 0",
            "undo = -1", "checksum = 26425950");
    }
}
