/** Each sentence of the sections 1 to 3 of the document: tables; variables, atoms, queries; leaps. */
public final class Sections1To3Test {
    public static void main(String[] args) {
        manyCalls();
        tables();
        rowsAsTold();
        facts();
        tablesBeside();
        variables();
        atomsAsTold();
        queries();
        queryWithoutAtoms();
        orders();
        answersInOrder();
        asking();
        askingRowsThatFit();
        wherexBegins();
        choosing();
        Script.endOf("section", 1, 3);
    }

    private static void manyCalls() {
        Script script = Script.sentence("what it is", "An object is used for at most 512 calls after it has been made");
        for (int n = 0; n < 170; n++) {
            script.says("addFact 1 7 7 0 = 1", "rowCount 1 = 17", "removeFact 1 7 7 0 = 0");
        }
        script.says("removeFact 1 7 7 0 = NOSUCH", "checksum = 26425950");
    }

    private static void tables() {
        Script.sentence("section 1", "There are up to 5 tables, numbered from 0.", "columns 0 = 2",
            "columns {-1 3} = INDEX", "addTable 3 = 3", "columns 3 = 3", "columns 4 = INDEX", "addTable 1 = 4",
            "columns 4 = 1", "addTable 1 = STATE", "tableCount = 5", "columns 5 = INDEX", "addFact 4 7 0 0 = 1",
            "addAtom 2 4 3 0 0 = 0", "answers 2 = 1");
        Script.sentence("section 1", "A table has 1 to 3 columns.", "addTable {0 4 -1 MAX MIN} = ARGUMENT",
            "tableCount = 3", "addTable 1 = 3", "columns 3 = 1", "rowAt 3 0 0 = INDEX", "addFact 3 1 0 0 = 1",
            "rowAt 3 0 0 = 1", "rowAt 3 0 1 = INDEX", "addTable 3 = 4", "columns 4 = 3", "addFact 4 1 2 3 = 1",
            "rowAt 4 0 2 = 3", "rowAt 4 0 3 = INDEX");
    }

    private static void rowsAsTold() {
        Script.sentence("section 1", "A row of a table has a value of 0 to 7 in each column.", "addTable 3 = 3",
            "addFact 3 0 0 0 = 1", "addFact 3 7 0 0 = 2", "addFact 3 0 7 0 = 3", "addFact 3 0 0 7 = 4",
            "addFact 3 7 7 7 = 5", "addFact 3 {8 -1 MAX MIN} 0 0 = ARGUMENT", "addFact 3 0 {8 -1 MAX MIN} 0 = ARGUMENT",
            "addFact 3 0 0 {8 -1 MAX MIN} = ARGUMENT", "addFact 0 7 7 0 = 7", "addFact 0 0 0 0 = 8",
            "addFact 0 {8 -1} 0 0 = ARGUMENT", "addFact 0 0 {8 -1} 0 = ARGUMENT", "addFact 2 0 0 0 = 2",
            "addFact 2 7 0 0 = 3", "addFact 2 {8 -1} 0 0 = ARGUMENT", "rowCount 3 = 5", "factCount 0 = 8",
            "factCount 2 = 3");
        Script.sentence("section 1", "In calls a row is told by three numbers a, b and c;", "addTable 3 = 3",
            "addFact 3 1 2 3 = 1", "isFact 3 1 2 3 = true", "isFact 3 {0 2 3} 2 3 = false",
            "isFact 3 1 {0 1 3} 3 = false", "isFact 3 1 2 {0 1 2} = false", "rowAt 3 0 0 = 1", "rowAt 3 0 1 = 2",
            "rowAt 3 0 2 = 3", "isFact 0 2 3 0 = true", "isFact 0 3 2 0 = false");
        Script beyond = Script.sentence("section 1", "those for which the table has no column must be 0.");
        for (String call : new String[] {"addFact", "removeFact", "isFact", "reasons", "firstFrom"}) {
            beyond.says(call + " 0 2 3 {1 7 8 -1 MAX MIN} = ARGUMENT", call + " 2 3 {1 7 8 -1 MAX MIN} 0 = ARGUMENT",
                call + " 2 3 0 {1 7 8 -1 MAX MIN} = ARGUMENT", call + " 2 3 {1 7 -1} {1 7 -1} = ARGUMENT");
        }
        beyond.says("isFact 0 2 3 0 = true", "isFact 2 3 0 0 = true", "factCount 0 = 6", "factCount 2 = 1",
            "undo = -1");
        Script.sentence("section 1", "Rows are ordered by a, then b, then c.", "addTable 3 = 3", "addFact 3 1 0 0 = 1",
            "addFact 3 0 7 7 = 2", "addFact 3 0 7 0 = 3", "addFact 3 0 0 7 = 4", "addFact 3 0 1 0 = 5",
            "rowAt 3 {0 1 2 3} 0 = 0", "rowAt 3 4 0 = 1", "rowAt 3 0 1 = 0", "rowAt 3 0 2 = 7", "rowAt 3 1 1 = 1",
            "rowAt 3 2 1 = 7", "rowAt 3 2 2 = 0", "rowAt 3 3 2 = 7", "rowAt 3 4 1 = 0", "firstFrom 3 0 1 7 = 2",
            "firstFrom 3 0 7 1 = 3", "firstFrom 3 1 0 0 = 4");
    }

    private static void facts() {
        Script.sentence("section 1", "The facts of a table are rows that were told", "factCount 1 = 0",
            "rowCount 1 = 16", "isFact 1 0 1 0 = false", "addFact 1 0 1 0 = 1", "isFact 1 0 1 0 = true",
            "factCount 1 = 1", "rowCount 1 = 16", "removeFact 1 0 1 0 = 0", "isFact 1 0 1 0 = false",
            "rowCount 1 = 16");
        Script.sentence("section 1", ", each at most once.", "addFact 0 0 1 0 = STATE", "addFact 2 3 0 0 = STATE",
            "addFact 1 0 1 0 = 1", "addFact 1 0 1 0 = STATE", "removeFact 0 0 1 0 = 5", "addFact 0 0 1 0 = 6",
            "addFact 0 0 1 0 = STATE", "removeFact 0 0 1 0 = 5", "removeFact 0 0 1 0 = NOSUCH", "factCount 0 = 5");
        Script two = Script.sentence("section 1", "A table has at most 60 facts.");
        for (int n = 0; n < 60; n++) {
            two.says("addFact 1 " + n / 8 + " " + n % 8 + " 0 = " + (n + 1));
        }
        two.says("addFact 1 7 {4 5 6 7} 0 = STATE", "factCount 1 = 60", "addFact 0 7 7 0 = 7",
            "removeFact 1 0 0 0 = 59", "addFact 1 7 7 0 = 60", "addFact 1 7 6 0 = STATE", "addTable 3 = 3");
        for (int n = 0; n < 60; n++) {
            two.says("addFact 3 7 " + n / 8 + " " + n % 8 + " = " + (n + 1));
        }
        two.says("addFact 3 7 7 {4 7} = STATE", "addFact 3 0 0 0 = STATE", "factCount 3 = 60", "rowCount 3 = 60");
        // The rules may add more than 60: the 60 facts are 0 0 to 7 3, and 7 4 comes over 7 3 and 3 4.
        Script more = Script.sentence("section 1",
            "The rows of a table are its facts and what the rules add (section 4).", "rowCount 1 = 16",
            "addFact 1 7 7 0 = 1", "rowCount 1 = 17", "addFact 1 0 1 0 = 2", "rowCount 1 = 17",
            "removeFact 1 7 7 0 = 1", "rowCount 1 = 16", "dropRule 1 = 1", "dropRule 0 = 0", "rowCount 1 = 1",
            "removeFact 1 0 1 0 = 0", "rowCount 1 = 0", "undo = 5", "undo = 4", "undo = 3", "removeFact 1 0 1 0 = 0");
        for (int n = 0; n < 60; n++) {
            more.says("addFact 1 " + n / 8 + " " + n % 8 + " 0 = " + (n + 1));
        }
        more.says("rowCount 1 = 61", "rowAt 1 60 0 = 7", "rowAt 1 60 1 = 4", "rowAt 1 61 0 = INDEX",
            "isFact 1 7 4 0 = false");
    }

    /** A table has nothing of the tables beside it, though these have the first and the last row that there can be. */
    private static void tablesBeside() {
        String words = "The rows of a table are its facts and what the rules add (section 4).";
        Script script = Script.sentence("section 1", words, "addTable 3 = 3", "addTable 3 = 4", "addFact 3 0 0 0 = 1",
            "addFact 3 7 7 7 = 2", "addFact 2 0 0 0 = 2", "addFact 2 7 0 0 = 3");
        noRows(script, 4);
        script.says("addFact 4 7 7 7 = 1", "rowAt 4 0 {0 1 2} = 7", "firstFrom 4 {0 7} 7 7 = 0", "addFact 4 0 0 0 = 2",
            "rowAt 4 0 {0 1 2} = 0", "rowAt 4 1 {0 1 2} = 7", "firstFrom 4 0 0 0 = 0", "firstFrom 4 0 0 1 = 1",
            "removeFact 3 0 0 0 = 1", "removeFact 3 7 7 7 = 0");
        noRows(script, 3);
        script.says("addFact 3 3 3 3 = 1", "rowCount 3 = 1", "values 3 {0 1 2} = 1", "rowAt 3 0 {0 1 2} = 3",
            "rowAt 3 1 0 = INDEX", "firstFrom 3 0 0 0 = 0", "firstFrom 3 3 3 3 = 0", "firstFrom 3 3 3 4 = NOSUCH",
            "firstFrom 4 7 7 7 = 1", "lower 3 8 = 3", "lower 3 3 = NOSUCH", "addAtom 2 3 0 1 2 = 0", "answers 2 = 1",
            "idleRows 2 0 = 0", "bound 2 = 1", "leaps 2 = 6");
    }

    private static void noRows(Script script, int table) {
        for (String line : new String[] {"rowCount # = 0", "factCount # = 0", "values # {0 1 2} = 0",
            "firstFrom # {0 7} {0 7} {0 7} = NOSUCH", "lower # {0 1 7 8} = NOSUCH", "rowAt # {-1 0 1} {0 1 2} = INDEX",
            "reasons # {0 7} {0 7} {0 7} = 0", "isFact # {0 7} {0 7} {0 7} = false"}) {
            script.says(line.replace("#", "" + table));
        }
    }

    private static void variables() {
        String strays = "{4 -1 MAX MIN}";
        Script.sentence("section 2", "There are four variables, numbered 0 to 3.", "addTable 3 = 3",
            "addAtom 2 0 0 3 0 = 0", "addAtom 2 0 3 0 0 = 1", "addAtom 3 3 3 3 3 = 0", "addAtom 3 3 0 1 2 = 1",
            "addAtom 2 3 " + strays + " 0 0 = ARGUMENT", "addAtom 2 3 0 " + strays + " 0 = ARGUMENT", "addAtom 2 3 0 0 "
            + strays + " = ARGUMENT", "addRule 3 3 3 3 = 2", "addRule 3 0 0 0 = 3", "addRule 3 " + strays
            + " 0 0 = ARGUMENT", "addRule 3 0 " + strays + " 0 = ARGUMENT", "addRule 3 0 0 " + strays + " = ARGUMENT",
            "addRuleAtom 2 3 3 3 3 false = 1", "addRuleAtom 2 3 0 0 0 false = 2", "addRuleAtom 2 3 " + strays
            + " 0 0 false = ARGUMENT", "addRuleAtom 2 3 0 " + strays + " 0 false = ARGUMENT", "addRuleAtom 2 3 0 0 "
            + strays + " true = ARGUMENT", "groups 3 {0 1 2 3} = 0", "groups 3 " + strays + " = INDEX");
    }

    private static void atomsAsTold() {
        Script.sentence("section 2", "An atom is a table with a variable for each of its columns",
            "addAtom 2 2 3 0 0 = 0", "groups 2 3 = 1", "groups 2 {0 1 2} = INDEX", "addAtom 3 0 3 1 0 = 0",
            "groups 3 1 = 5", "groups 3 3 = 4", "groups 3 {0 2} = INDEX", "addTable 3 = 3", "addAtom 3 3 3 1 2 = 1",
            "groups 3 {1 2 3} = 0", "groups 3 0 = INDEX");
        Script.sentence("section 2", "(the same variable may stand at several columns).", "addAtom 2 1 2 2 0 = 0",
            "answers 2 = 3", "answerAt 2 2 2 = 2", "groups 2 {0 1 3} = INDEX", "addTable 3 = 3", "addFact 3 5 5 5 = 1",
            "addFact 3 6 6 5 = 2", "addFact 3 6 5 6 = 3", "addFact 3 5 6 6 = 4", "addAtom 3 3 1 1 1 = 0",
            "answers 3 = 1", "answerAt 3 0 1 = 5", "addRule 2 0 0 0 = 2", "addRuleAtom 2 3 0 0 0 false = 1",
            "rowCount 2 = 2", "addRule 1 3 3 0 = 3", "addRuleAtom 3 2 3 0 0 false = 1", "reasons 1 3 3 0 = 1",
            "reasons 1 5 5 0 = 1");
        Script.sentence("section 2", "In calls the variables of an atom are told by three numbers;", "addTable 3 = 3",
            "addFact 3 1 2 3 = 1", "addAtom 2 3 3 0 2 = 0", "answerAt 2 0 3 = 1", "answerAt 2 0 0 = 2",
            "answerAt 2 0 2 = 3", "addAtom 3 0 2 1 0 = 0", "answerAt 3 0 1 = 0", "answerAt 3 0 2 = 2");
        Script beyond = Script.sentence("section 2", "those for which the table has no column must be 0.");
        beyond.says("addAtom 2 0 {0 3} {0 3} {1 3 4 -1 MAX MIN} = ARGUMENT",
            "addAtom 2 2 {0 3} {1 3 4 -1 MAX MIN} 0 = ARGUMENT", "addAtom 2 2 {0 3} 0 {1 3 4 -1 MAX MIN} = ARGUMENT",
            "addRule 0 {0 3} {0 3} {1 3 -1} = ARGUMENT", "addRule 2 {0 3} {1 3 -1} {0 1} = ARGUMENT",
            "addRule 2 {0 3} 0 {1 3 -1} = ARGUMENT", "atomCount 2 = 0", "ruleCount = 2",
            "addRuleAtom 0 0 {0 3} {0 3} {1 3 -1} {true false} = ARGUMENT",
            "addRuleAtom 0 2 {0 3} {1 3 -1} {0 1} {true false} = ARGUMENT",
            "addRuleAtom 0 2 3 0 {1 3 -1} false = ARGUMENT", "undo = -1", "addAtom 2 0 3 3 0 = 0",
            "addAtom 2 2 3 0 0 = 1", "addRule 2 3 0 0 = 2", "addRuleAtom 2 2 3 0 0 false = 1");
        // The atom has the variables 1 0: the row 2 3 is the values 3 of the variable 0 and 2 of the variable 1.
        Script.sentence("section 2", "Some values of variables fit an atom if the row that they make "
            + "(in each column the value of its variable) is a row of its table.", "addAtom 2 0 1 0 0 = 0",
            "answers 2 = 6", "answerAt 2 4 0 = 3", "answerAt 2 4 1 = 2", "addTable 3 = 3", "addFact 3 4 2 5 = 1",
            "addAtom 3 3 2 0 1 = 0", "answerAt 3 0 0 = 2", "answerAt 3 0 1 = 5", "answerAt 3 0 2 = 4",
            "addAtom 3 3 2 0 0 = 1", "answers 3 = 0", "addFact 3 4 2 2 = 2", "answers 3 = 2");
    }

    private static void queries() {
        Script stray = Script.sentence("section 2", "There are four queries, numbered 0 to 3.");
        for (String call : Script.QUERY_CALLS) {
            stray.says(call.replace("#", "{-1 4 MAX MIN}") + " = INDEX");
        }
        stray.says("undo = -1", "atomCount {2 3} = 0", "addAtom 3 2 0 0 0 = 0", "answers 3 = 1", "clearQuery 0 = 3",
            "setOrder {0 1 2 3} 3210 = 123", "isTree {0 1 2 3} = true");
        Script.sentence("section 2", "A query has up to 5 atoms, numbered from 0;", "addAtom 2 0 0 1 0 = 0",
            "addAtom 2 0 0 1 0 = 1", "addAtom 2 0 0 1 0 = 2", "addAtom 2 0 0 1 0 = 3", "idleRows 2 {-1 4} = INDEX",
            "addAtom 2 2 1 0 0 = 4", "addAtom 2 0 0 1 0 = STATE", "atomCount 2 = 5", "idleRows 2 0 = 5",
            "idleRows 2 4 = 0", "idleRows 2 {-1 5} = INDEX", "answers 2 = 1", "clearQuery 2 = 5",
            "addAtom 2 0 0 1 0 = 0");
        Script.sentence("section 2", "at first it has none.", "atomCount {2 3} = 0", "clearQuery {2 3} = 0");
        Script.sentence("section 2", "Its variables are those that stand in some of its atoms.",
            "groups 2 {0 1 2 3} = INDEX", "addAtom 2 0 1 3 0 = 0", "groups 2 1 = 4", "groups 2 3 = 5",
            "groups 2 {0 2} = INDEX", "addAtom 2 2 0 0 0 = 1", "groups 2 0 = 1", "groups 2 2 = INDEX",
            "groupSize 2 2 0 = INDEX", "answerAt 2 0 2 = INDEX", "clearQuery 2 = 2", "groups 2 {0 1 2 3} = INDEX");
        Script.sentence("section 2", "An answer is a value for each of its variables with which all its atoms fit.",
            "addAtom 2 0 0 1 0 = 0", "answers 2 = 6", "addAtom 2 0 1 0 0 = 1", "answers 2 = 2", "answerAt 2 0 0 = 0",
            "answerAt 2 0 1 = 2", "answerAt 2 1 0 = 2", "answerAt 2 1 1 = 0", "addAtom 2 2 0 0 0 = 2", "answers 2 = 0",
            "addFact 2 2 0 0 = 2", "answers 2 = 1", "answerAt 2 0 1 = 0");
    }

    private static void queryWithoutAtoms() {
        Script.sentence("section 2", "A query without atoms has no answers.", "answers {2 3} = 0",
            "answerAt 2 0 0 = INDEX", "seek 2 0 0 0 0 = NOSUCH", "leaps 2 = 0", "clearQuery 0 = 3", "answers 0 = 0",
            "seek 0 0 0 0 0 = NOSUCH", "answerAt 0 0 0 = INDEX", "groups 0 0 = INDEX", "errors = 0", "undo = 0",
            "answers 0 = 3");
    }

    private static void orders() {
        String words = "A query has an order of the variables: a number whose four decimal digits are 0, 1, 2 and 3, each once";
        int right = 0;
        for (int from = -3300; from < 11000; from += 400) {
            Script script = Script.sentence("section 2", words);
            for (int order = from; order < from + 400; order++) {
                script.says("setOrder 3 " + order + " = " + (isOrder(order) ? "123" : "ARGUMENT"));
                if (isOrder(order)) {
                    script.says("undo = 0");
                    right++;
                }
            }
        }
        Script.sentence("section 2", words, "setOrder 3 {MAX MIN 100123 -2147483525} = ARGUMENT", "undo = -1");
        if (right != 24) {
            throw new Error("there are 24 orders");
        }
        Script.sentence("section 2", "(the first one is the first digit;", "setOrder 0 2013 = 123",
            "answerAt 0 0 2 = 0", "answerAt 0 1 2 = 1", "answerAt 0 2 2 = 2", "addAtom 2 0 0 1 0 = 0",
            "setOrder 2 1023 = 123", "answerAt 2 1 1 = 1", "answerAt 2 1 0 = 0", "answerAt 2 2 0 = 0",
            "answerAt 2 2 1 = 2");
        Script.sentence("section 2", "123 is 0, 1, 2, 3).", "addAtom 2 0 1 0 0 = 0", "addAtom 2 0 3 2 0 = 1",
            "setOrder 2 123 = 123", "answerAt 2 {0 1 2 3 4 5} 0 = 0", "answerAt 2 {0 1 2 3 4 5} 1 = 2",
            "answerAt 2 0 2 = 0", "answerAt 2 0 3 = 2", "answerAt 2 1 2 = 1", "answerAt 2 2 2 = 2",
            "answerAt 2 2 3 = 0", "answerAt 2 3 3 = 1", "answerAt 2 5 2 = 4", "answerAt 2 6 0 = 1",
            "answerAt 2 6 2 = 0");
        Script.sentence("section 2", "It is 123 at first.", "setOrder {0 1 2 3} 3210 = 123", "setOrder 0 123 = 3210");
    }

    private static boolean isOrder(int order) {
        if (order < 0 || order > 9999) {
            return false;
        }
        String digits = String.format("%04d", order);
        return "0123".chars().allMatch(digit -> digits.indexOf(digit) >= 0);
    }

    /** The query is table 0 with 3 1 and table 2 with 2: its variables are 1, 2 and 3. */
    private static void answersInOrder() {
        Script.sentence("section 2",
            "Answers are ordered by the value of the variable of the query that is first in this order, "
            + "then by that of the second one, and so on, and are numbered from 0 in ascending order.",
            "addFact 2 1 0 0 = 2", "addAtom 2 0 3 1 0 = 0", "addAtom 2 2 2 0 0 = 1", "answers 2 = 12",
            "setOrder 2 2310 = 123", "answerAt 2 {0 1 2 3 4 5} 2 = 1", "answerAt 2 {6 7 8 9 10 11} 2 = 3",
            "answerAt 2 {0 1 6 7} 3 = 0", "answerAt 2 {0 6} 1 = 1", "answerAt 2 {1 7} 1 = 2", "answerAt 2 {2 8} 3 = 1",
            "answerAt 2 {3 4 9 10} 3 = 2", "answerAt 2 {3 9} 1 = 0", "answerAt 2 {4 10} 1 = 3",
            "answerAt 2 {5 11} 3 = 3", "answerAt 2 {-1 12} 3 = INDEX", "setOrder 2 1023 = 2310",
            "answerAt 2 {0 1} 1 = 0", "answerAt 2 {2 3} 1 = 1", "answerAt 2 {4 5 6 7} 1 = 2", "answerAt 2 {4 5} 2 = 1",
            "answerAt 2 {6 7} 2 = 3", "answerAt 2 {4 6} 3 = 0", "answerAt 2 {5 7} 3 = 1", "answerAt 2 {10 11} 1 = 4",
            "setOrder 2 321 = 1023", "answerAt 2 {0 1 2 3} 3 = 0", "answerAt 2 {0 1} 2 = 1", "answerAt 2 {2 3} 2 = 3",
            "answerAt 2 {0 2} 1 = 1", "answerAt 2 {1 3} 1 = 2");
    }

    /** A run with tables of one column, 2, 3 and 4: their values are the digits of the texts. */
    private static Script columns(String words, String... digits) {
        Script script = Script.sentence("section 3", words, "removeFact 2 3 0 0 = 0");
        for (int i = 0; i < digits.length; i++) {
            if (i > 0) {
                script.says("addTable 1 = " + (i + 2));
            }
            for (int n = 0; n < digits[i].length(); n++) {
                script.says("addFact " + (i + 2) + " " + digits[i].charAt(n) + " 0 0 = " + (n + 1));
            }
        }
        return script;
    }

    private static void asking() {
        // First the variable 0: 5 askings, and for each of its values those of the variable 1: 3 + 2 + 3 + 2.
        Script.sentence("section 3",
            "The answers of a query are looked for like this: its variables are gone through in its order, "
            + "one within the other.", "addAtom 2 0 0 1 0 = 0", "leaps 2 = 15", "setOrder 2 1023 = 123", "leaps 2 = 17",
            "setOrder 2 3210 = 1023", "leaps 2 = 17", "setOrder 2 3021 = 3210", "leaps 2 = 15");
        // Told are 2 4 4 and none; the table 1 with 0 1 is not asked for the variable 3 (5 + 20 askings, and 4 for each row).
        columns("For a variable, the atoms in which it stands are asked", "4", "24").says("addAtom 2 3 3 0 0 = 0",
            "addAtom 2 2 3 0 0 = 1", "leaps 2 = 4", "addAtom 2 1 0 1 0 = 2", "answers 2 = 16", "leaps 2 = 89");
        // In turn 1 4 7 and none; from the last to the first 2 4 6 7 and none.
        columns("in turn, by ascending numbers", "16", "4", "27").says("addAtom 2 2 0 0 0 = 0", "addAtom 2 3 0 0 0 = 1",
            "addAtom 2 4 0 0 0 = 2", "leaps 2 = 4", "addAtom 3 4 0 0 0 = 0", "addAtom 3 3 0 0 0 = 1",
            "addAtom 3 2 0 0 0 = 2", "leaps 3 = 5");
        columns(", round and round", "246", "1357").says("addAtom 2 2 0 0 0 = 0", "addAtom 2 3 0 0 0 = 1",
            "answers 2 = 0", "leaps 2 = 7", "addAtom 3 3 0 0 0 = 0", "addAtom 3 2 0 0 0 = 1", "leaps 3 = 8");
        // The variable 1 is begun twice, each time with 2 of the first atom, 3 of the second one, and none of the first one.
        columns(", beginning with the first one each time the variable is begun", "35", "2", "3").says(
            "addAtom 2 2 0 0 0 = 0", "addAtom 2 3 1 0 0 = 1", "addAtom 2 4 1 0 0 = 2", "leaps 2 = 9");
        columns(": each asking is a leap", "3").says("addAtom 2 2 0 0 0 = 0", "leaps 2 = 2", "addAtom 2 2 0 0 0 = 1",
            "leaps 2 = 3", "addAtom 2 2 0 0 0 = 2", "leaps 2 = 4", "addAtom 2 2 0 0 0 = 3", "leaps 2 = 5",
            "addAtom 2 2 0 0 0 = 4", "leaps 2 = 6");
        // The first atom tells 0, the second one 4 and the first one 4, which is chosen; then there is none.
        columns(", and tells the least value that is not less than x", "04567", "4").says("addAtom 2 2 0 0 0 = 0",
            "addAtom 2 3 0 0 0 = 1", "leaps 2 = 4", "answers 2 = 1", "answerAt 2 0 0 = 4");
    }

    private static void askingRowsThatFit() {
        // Only 2 0 and 2 3 fit the value 2 of the variable 0 that table 2 leaves.
        Script.sentence("section 3", "and that the variable has in some row of the atom's table "
            + "that fits the values that were chosen for variables ahead", "addFact 2 2 0 0 = 2",
            "removeFact 2 3 0 0 = 1", "addAtom 2 2 0 0 0 = 0", "addAtom 2 0 0 1 0 = 1", "answers 2 = 2", "leaps 2 = 6",
            "addTable 3 = 3", "addFact 3 1 2 3 = 1", "addFact 3 1 4 5 = 2", "addFact 3 6 2 7 = 3",
            "addAtom 3 3 0 1 2 = 0", "leaps 3 = 14", "setOrder 3 2103 = 123", "leaps 3 = 16", "setOrder 3 1203 = 2103",
            "leaps 3 = 14");
        // For the variable 0 the rows 1 6 6 and 2 6 6 count, and 0 4 5 does not, though the variable 1 is not chosen yet.
        Script.sentence("section 3", "(in all columns of one variable the row must have the same value, "
            + "also for variables that are not chosen yet).", "addTable 3 = 3", "addFact 3 0 4 5 = 1",
            "addFact 3 1 6 6 = 2", "addFact 3 2 6 6 = 3", "addAtom 2 3 0 1 1 = 0", "leaps 2 = 7",
            "setOrder 2 1023 = 123", "leaps 2 = 5", "clearQuery 2 = 1", "addFact 3 4 5 4 = 4", "addFact 3 7 7 3 = 5",
            "addAtom 2 3 0 1 0 = 0", "leaps 2 = 4", "setOrder 2 123 = 1023", "leaps 2 = 4", "clearQuery 2 = 1",
            "addAtom 2 3 1 1 0 = 0", "leaps 2 = 4", "setOrder 2 1023 = 123", "leaps 2 = 4", "clearQuery 2 = 1",
            "addAtom 2 3 3 3 3 = 0", "leaps 2 = 1", "answers 2 = 0");
    }

    private static void wherexBegins() {
        columns("x is 0 at first.", "0").says("addAtom 2 2 0 0 0 = 0", "leaps 2 = 2", "answers 2 = 1",
            "addAtom 2 2 0 0 0 = 1", "leaps 2 = 3", "answers 2 = 1", "addAtom 2 2 1 0 0 = 2", "leaps 2 = 5",
            "answers 2 = 1", "answerAt 2 0 1 = 0");
        // The variable 1 begins from 0 again for each value of the variable 0.
        columns("x is 0 at first.", "67", "01").says("addAtom 2 2 0 0 0 = 0", "addAtom 2 3 1 0 0 = 1", "answers 2 = 4",
            "leaps 2 = 9");
        columns("If there is no such value", "", "5").says("addAtom 2 2 0 0 0 = 0", "leaps 2 = 1",
            "addAtom 2 3 0 0 0 = 1", "leaps 2 = 1", "addAtom 3 3 0 0 0 = 0", "leaps 3 = 2", "addAtom 3 2 0 0 0 = 1",
            "leaps 3 = 2", "answers 3 = 0");
        // 7 is chosen, and x is 8: the asking that finds none counts, and it is one only, whatever the number of atoms.
        columns("(also with x above 7)", "7").says("addAtom 2 2 0 0 0 = 0", "leaps 2 = 2", "addAtom 2 2 0 0 0 = 1",
            "leaps 2 = 3", "addAtom 2 2 0 0 0 = 2", "leaps 2 = 4", "addAtom 3 0 0 1 0 = 0", "addFact 0 7 7 0 = 7",
            "leaps 3 = 18", "setOrder 3 1023 = 123", "leaps 3 = 20");
        // None for the variable 1 goes on with the next value of the variable 0.
        columns(", the variable is done.", "1", "25").says("addAtom 2 3 0 0 0 = 0", "addAtom 2 2 1 0 0 = 1",
            "answers 2 = 2", "leaps 2 = 7", "removeFact 2 1 0 0 = 0", "answers 2 = 0", "leaps 2 = 5");
    }

    private static void choosing() {
        columns("If it is greater than x, x becomes this value (which this asking has told then).", "3").says(
            "addAtom 2 2 0 0 0 = 0", "leaps 2 = 2", "addAtom 2 2 0 0 0 = 1", "leaps 2 = 3", "answerAt 2 0 0 = 3");
        // Told are 1 1 3 5 5 5: at 3 the count begins with one again.
        columns("When as many askings behind one another as there are atoms with the variable have told x", "15", "15",
            "35").says("addAtom 2 2 0 0 0 = 0", "addAtom 2 3 0 0 0 = 1", "addAtom 2 4 0 0 0 = 2", "answers 2 = 1",
            "leaps 2 = 7", "addAtom 2 4 1 0 0 = 3", "answers 2 = 2", "leaps 2 = 10");
        columns(", it is chosen: the next variable is begun with it", "35", "14").says("addAtom 2 2 0 0 0 = 0",
            "leaps 2 = 3", "addAtom 2 3 1 0 0 = 1", "leaps 2 = 9", "addAtom 2 0 0 2 0 = 2", "leaps 2 = 11",
            "answers 2 = 2");
        columns(", or, if there is none, this is an answer;", "35").says("addAtom 2 2 3 0 0 = 0", "answers 2 = 2",
            "answerAt 2 0 3 = 3", "answerAt 2 1 3 = 5", "addAtom 2 2 1 0 0 = 1", "answers 2 = 4", "answerAt 2 1 1 = 3",
            "answerAt 2 1 3 = 5");
        columns("behind that x becomes 1 more", "345").says("addAtom 2 2 0 0 0 = 0", "answers 2 = 3", "leaps 2 = 4",
            "answerAt 2 0 0 = 3", "answerAt 2 1 0 = 4", "answerAt 2 2 0 = 5");
        // Told are 2 3 3; then the second atom is in turn: 7, and the first one: none. The variable 1 between changes nothing.
        columns(", and the next atom in turn is asked", "235", "37", "1").says("addAtom 2 2 0 0 0 = 0",
            "addAtom 2 3 0 0 0 = 1", "answers 2 = 1", "leaps 2 = 5", "addAtom 2 4 1 0 0 = 2", "leaps 2 = 7");
        // 3 3, 4 4 and none: 4 is not chosen when it is told once.
        columns(", the count beginning anew.", "34", "34").says("addAtom 2 2 0 0 0 = 0", "addAtom 2 3 0 0 0 = 1",
            "answers 2 = 2", "leaps 2 = 5", "clearQuery 2 = 2", "addFact 3 5 0 0 = 3", "addFact 2 6 0 0 = 3",
            "addAtom 2 2 0 0 0 = 0", "addAtom 2 3 0 0 0 = 1", "answers 2 = 2", "leaps 2 = 6");
    }
}
