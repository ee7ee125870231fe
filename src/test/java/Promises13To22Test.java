/** Each sentence of the promises 13 to 22: what is read of tables and their rows. */
public final class Promises13To22Test {
    private static final String NO_TABLE = "{-1 3 4 5 8 MAX MIN}";

    public static void main(String[] args) {
        counts();
        rowCount();
        isFact();
        reasons();
        rowAt();
        firstFrom();
        values();
        lower();
        Script.endOf("promise", 13, 22);
    }

    private static Script sentence(int promise, String words, String... lines) {
        return Script.sentence("promise " + promise, words, lines);
    }

    /** A run with a table 3 of three columns, whose rows are made by a rule: all 512, when table 2 has all values. */
    private static Script allRows(int promise, String words) {
        return sentence(promise, words, "addTable 3 = 3", "addRule 3 0 1 2 = 2", "addRuleAtom 2 2 0 0 0 false = 1",
            "addRuleAtom 2 2 1 0 0 false = 2", "addRuleAtom 2 2 2 0 0 false = 3", "addFact 2 0 0 0 = 2",
            "addFact 2 1 0 0 = 3", "addFact 2 2 0 0 = 4", "addFact 2 4 0 0 = 5", "addFact 2 5 0 0 = 6",
            "addFact 2 6 0 0 = 7", "addFact 2 7 0 0 = 8");
    }

    private static void counts() {
        sentence(13, "the number of tables. // 3 to 5.", "tableCount = 3", "addTable 1 = 3", "tableCount = 4",
            "addTable 1 = 4", "tableCount = 5", "addTable 1 = STATE", "tableCount = 5", "undo = 1", "tableCount = 4",
            "undo = 0", "tableCount = 3", "undo = -1", "tableCount = 3");
        sentence(14, "the number of columns of a table. // `table`: number of a table // 1 to 3.", "columns {0 1} = 2",
            "columns 2 = 1", "addTable 3 = 3", "addTable 1 = 4", "columns 3 = 3", "columns 4 = 1", "undo = 1",
            "addTable 2 = 4", "columns 4 = 2");
        sentence(14, "if there is no such table", "columns " + NO_TABLE + " = INDEX", "addTable 1 = 3", "columns 3 = 1",
            "columns 4 = INDEX", "undo = 0", "columns 3 = INDEX");
        Script facts = sentence(15, "the number of facts of a table. // `table`: number of a table // 0 to 60.",
            "factCount 0 = 6", "factCount 1 = 0", "factCount 2 = 1", "removeFact 2 3 0 0 = 0", "factCount 2 = 0",
            "addTable 1 = 3", "factCount 3 = 0");
        for (int n = 0; n < 60; n++) {
            facts.says("addFact 1 " + n / 8 + " " + n % 8 + " 0 = " + (n + 1), "factCount 1 = " + (n + 1));
        }
        facts.says("addFact 1 7 7 0 = STATE", "factCount 1 = 60", "factCount 0 = 6", "undo = 9", "factCount 1 = 59");
        sentence(15, "if there is no such table", "factCount " + NO_TABLE + " = INDEX", "addTable 1 = 3",
            "factCount 3 = 0", "factCount 4 = INDEX");
    }

    private static void rowCount() {
        sentence(16, "the number of rows of a table. // `table`: number of a table", "rowCount 0 = 6",
            "rowCount 1 = 16", "rowCount 2 = 1", "addFact 1 0 1 0 = 1", "rowCount 1 = 16", "addFact 1 7 7 0 = 2",
            "rowCount 1 = 17", "dropRule 1 = 1", "rowCount 1 = 7", "dropRule 0 = 0", "rowCount 1 = 2", "addTable 3 = 3",
            "addFact 3 7 0 7 = 1", "rowCount 3 = 1");
        sentence(16, "0 to 512.", "removeFact 2 3 0 0 = 0", "rowCount 2 = 0", "addTable 2 = 3", "rowCount 3 = 0");
        allRows(16, "0 to 512.").says("rowCount 2 = 8", "rowCount 3 = 512", "addRule 1 0 1 0 = 3",
            "addRuleAtom 3 2 0 0 0 false = 1", "addRuleAtom 3 2 1 0 0 false = 2", "rowCount 1 = 64",
            "removeFact 2 7 0 0 = 7", "rowCount 3 = 343");
        sentence(16, "if there is no such table", "rowCount " + NO_TABLE + " = INDEX", "addTable 1 = 3",
            "rowCount 3 = 0", "rowCount 4 = INDEX", "undo = 0", "rowCount 3 = INDEX");
    }

    private static void isFact() {
        sentence(17, "Tells whether a row is a fact of a table. // `table`: number of a table // true if so.",
            "isFact 0 0 1 0 = true", "isFact 1 0 1 0 = false", "isFact 2 3 0 0 = true",
            "isFact 2 {0 1 2 4 5 6 7} 0 0 = false", "addFact 1 0 1 0 = 1", "isFact 1 0 1 0 = true",
            "isFact 1 1 0 0 = false", "removeFact 1 0 1 0 = 0", "isFact 1 0 1 0 = false");
        sentence(17, "see section 1", "addTable 3 = 3", "isFact 3 {0 7} {0 7} {0 7} = false", "addFact 3 7 7 7 = 1",
            "addFact 3 0 0 0 = 2", "isFact 3 7 7 7 = true", "isFact 3 0 0 0 = true", "isFact 3 7 7 {0 6} = false",
            "isFact 0 {0 7} {0 7} 0 = false", "isFact 2 {0 7} 0 0 = false");
        sentence(17, "if there is no such table", "isFact " + NO_TABLE + " 0 1 0 = INDEX", "isFact 3 8 8 8 = INDEX");
        sentence(17, "if the row is not as told", "isFact 0 {8 -1 MAX MIN} 1 0 = ARGUMENT",
            "isFact 0 0 {8 -1 MAX MIN} 0 = ARGUMENT", "isFact 0 0 1 {1 7 -1 MAX MIN} = ARGUMENT",
            "isFact 2 3 {1 -1} 0 = ARGUMENT", "isFact 2 3 0 {1 -1} = ARGUMENT", "addTable 3 = 3",
            "isFact 3 0 0 {8 -1} = ARGUMENT", "isFact 3 0 0 7 = false");
    }

    private static void reasons() {
        sentence(18, "Counts the reasons of a row (section 4). // `table`: number of a table // the number;",
            "reasons 0 0 1 0 = 1", "reasons 1 0 1 0 = 2", "reasons 1 0 2 0 = 3", "reasons 1 {0 1 2} 4 0 = 1",
            "reasons 1 3 4 0 = 1", "reasons 2 3 0 0 = 1", "addFact 1 0 2 0 = 1", "reasons 1 0 2 0 = 4",
            "dropRule 0 = 1", "reasons 1 0 2 0 = 3");
        sentence(18, "0 if it is no row of the table.", "reasons 0 1 0 0 = 0", "reasons 0 7 7 0 = 0",
            "reasons 1 3 3 0 = 0", "reasons 1 4 {0 1 2 3 4} 0 = 0", "reasons 2 {0 1 2 4 7} 0 0 = 0", "addTable 3 = 3",
            "reasons 3 0 0 0 = 0", "reasons 3 7 7 7 = 0", "addFact 1 7 7 0 = 1", "reasons 1 7 7 0 = 1",
            "removeFact 1 7 7 0 = 0", "reasons 1 7 7 0 = 0");
        sentence(18, "see section 1", "addTable 3 = 3", "addFact 3 0 0 0 = 1", "addFact 3 7 7 7 = 2",
            "reasons 3 0 0 0 = 1", "reasons 3 7 7 7 = 1", "reasons 3 7 7 0 = 0", "reasons 0 {0 7} {0 7} 0 = 0",
            "reasons 2 {0 7} 0 0 = 0");
        // 512 choices of values with the same row.
        allRows(18, "the number;").says("addRule 0 7 7 0 = ARGUMENT", "addRule 0 3 3 0 = 3",
            "addRuleAtom 3 3 0 1 2 false = 1", "addRuleAtom 3 2 3 0 0 false = 2", "reasons 0 0 0 0 = 512",
            "reasons 0 7 7 0 = 512", "reasons 3 {0 7} {0 7} {0 7} = 1", "reasons 0 0 1 0 = 1");
        sentence(18, "if there is no such table", "reasons " + NO_TABLE + " 0 1 0 = INDEX", "reasons 3 8 8 8 = INDEX");
        sentence(18, "if the row is not as told", "reasons 0 {8 -1 MAX MIN} 1 0 = ARGUMENT",
            "reasons 0 0 {8 -1 MAX MIN} 0 = ARGUMENT", "reasons 0 0 1 {1 7 -1 MAX MIN} = ARGUMENT",
            "reasons 2 3 {1 -1} 0 = ARGUMENT", "reasons 2 3 0 {1 -1} = ARGUMENT", "addTable 3 = 3",
            "reasons 3 0 0 {8 -1} = ARGUMENT");
    }

    private static void rowAt() {
        sentence(19, "a value of a row of a table. // `table`: number of a table", "rowAt 2 0 0 = 3", "rowAt 0 4 0 = 2",
            "rowAt 0 4 1 = 3", "rowAt 1 15 0 = 3", "rowAt 1 15 1 = 4", "addTable 3 = 3", "addFact 3 4 5 6 = 1",
            "rowAt 3 0 0 = 4", "rowAt 3 0 1 = 5", "rowAt 3 0 2 = 6");
        sentence(19, "`row`: number of a row, in ascending order from 0", "rowAt 0 {0 1} 0 = 0", "rowAt 0 0 1 = 1",
            "rowAt 0 1 1 = 2", "rowAt 0 2 0 = 1", "rowAt 0 {3 4} 0 = 2", "rowAt 0 3 1 = 0", "rowAt 0 4 1 = 3",
            "rowAt 0 5 0 = 3", "rowAt 0 5 1 = 4", "addFact 0 0 0 0 = 7", "rowAt 0 0 1 = 0", "rowAt 0 6 1 = 4",
            "addFact 0 7 7 0 = 8", "rowAt 0 7 {0 1} = 7", "removeFact 0 0 1 0 = 7", "rowAt 0 1 1 = 2");
        sentence(19, "`column`: number of a column, from 0", "rowAt 0 0 0 = 0", "rowAt 0 0 1 = 1",
            "rowAt 0 0 2 = INDEX", "rowAt 2 0 0 = 3", "rowAt 2 0 1 = INDEX", "addTable 3 = 3", "addFact 3 1 2 3 = 1",
            "rowAt 3 0 2 = 3", "rowAt 3 0 3 = INDEX");
        allRows(19, "0 to 7.").says("rowAt 3 0 {0 1 2} = 0", "rowAt 3 511 {0 1 2} = 7", "rowAt 3 83 0 = 1",
            "rowAt 3 83 1 = 2", "rowAt 3 83 2 = 3", "rowAt 3 448 0 = 7", "rowAt 3 448 {1 2} = 0", "rowAt 3 63 0 = 0",
            "rowAt 3 63 {1 2} = 7", "rowAt 3 512 0 = INDEX", "rowAt 2 7 0 = 7", "rowAt 2 0 0 = 0");
        sentence(19, "if there is no such table, row or column", "rowAt " + NO_TABLE + " 0 0 = INDEX",
            "rowAt 0 {-1 6 7 512 MAX MIN} 0 = INDEX", "rowAt 0 0 {-1 2 3 MAX MIN} = INDEX", "rowAt 2 {-1 1} 0 = INDEX",
            "rowAt 2 0 {-1 1 2} = INDEX", "rowAt 1 16 0 = INDEX", "rowAt 0 6 2 = INDEX", "addTable 3 = 3",
            "rowAt 3 0 0 = INDEX", "addFact 3 0 0 0 = 1", "rowAt 3 0 3 = INDEX", "rowAt 3 1 0 = INDEX",
            "removeFact 2 3 0 0 = 0", "rowAt 2 0 0 = INDEX");
    }

    private static void firstFrom() {
        sentence(20,
            "the number of the first row of a table that is not less than a row. // `table`: number of a table "
            + "// the number of a row.",
            "firstFrom 0 0 0 0 = 0", "firstFrom 0 0 1 0 = 0", "firstFrom 0 0 2 0 = 1", "firstFrom 0 0 {3 7} 0 = 2",
            "firstFrom 0 1 {0 1 2} 0 = 2", "firstFrom 0 1 3 0 = 3", "firstFrom 0 2 {1 2 3} 0 = 4",
            "firstFrom 0 3 {0 4} 0 = 5", "firstFrom 2 {0 1 2 3} 0 0 = 0", "firstFrom 1 3 0 0 = 15",
            "firstFrom 1 2 4 0 = 14", "addTable 3 = 3", "addFact 3 1 2 3 = 1", "addFact 3 1 2 5 = 2",
            "firstFrom 3 1 2 {0 3} = 0", "firstFrom 3 1 2 {4 5} = 1", "firstFrom 3 0 7 7 = 0", "firstFrom 3 1 1 7 = 0");
        sentence(20, "see section 1", "addTable 3 = 3", "addFact 3 7 7 7 = 1", "firstFrom 3 {0 7} {0 7} {0 7} = 0",
            "firstFrom 0 0 0 0 = 0", "firstFrom 2 0 0 0 = 0");
        allRows(20, "the number of a row.").says("firstFrom 3 7 7 7 = 511", "firstFrom 3 1 2 3 = 83",
            "firstFrom 3 0 0 0 = 0", "firstFrom 3 7 0 0 = 448");
        sentence(20, "if there is no such table", "firstFrom " + NO_TABLE + " 0 0 0 = INDEX",
            "firstFrom 3 8 8 8 = INDEX");
        sentence(20, "if the row is not as told", "firstFrom 0 {8 -1 MAX MIN} 0 0 = ARGUMENT",
            "firstFrom 0 0 {8 -1 MAX MIN} 0 = ARGUMENT", "firstFrom 0 0 0 {1 -1 MAX MIN} = ARGUMENT",
            "firstFrom 2 0 {1 -1} 0 = ARGUMENT", "firstFrom 2 0 0 {1 -1} = ARGUMENT", "firstFrom 0 7 8 0 = ARGUMENT",
            "firstFrom 2 7 0 1 = ARGUMENT", "addTable 3 = 3", "firstFrom 3 0 0 8 = ARGUMENT");
        sentence(20, "if all rows are less", "firstFrom 0 3 4 0 = 5", "firstFrom 0 3 5 0 = NOSUCH",
            "firstFrom 0 {4 7} {0 7} 0 = NOSUCH", "firstFrom 2 3 0 0 = 0", "firstFrom 2 {4 7} 0 0 = NOSUCH",
            "addTable 3 = 3", "firstFrom 3 {0 7} 0 0 = NOSUCH", "addFact 3 1 2 3 = 1", "firstFrom 3 1 2 3 = 0",
            "firstFrom 3 1 2 4 = NOSUCH", "firstFrom 3 1 3 0 = NOSUCH", "removeFact 2 3 0 0 = 0",
            "firstFrom 2 0 0 0 = NOSUCH");
    }

    private static void values() {
        sentence(21,
            "how many values a column has. // `table`: number of a table // `column`: number of a column, from 0",
            "values 0 0 = 4", "values 0 1 = 5", "values 1 0 = 4", "values 1 1 = 5", "values 2 0 = 1", "addTable 3 = 3",
            "addFact 3 1 2 3 = 1", "addFact 3 1 4 3 = 2", "addFact 3 1 5 6 = 3", "values 3 0 = 1", "values 3 1 = 3",
            "values 3 2 = 2");
        sentence(21, "the number of unlike values in the rows of the table.", "addFact 0 0 3 0 = 7", "values 0 0 = 4",
            "values 0 1 = 5", "addFact 0 7 7 0 = 8", "values 0 0 = 5", "values 0 1 = 6", "values 1 0 = 5",
            "values 1 1 = 6", "removeFact 2 3 0 0 = 0", "values 2 0 = 0", "addFact 2 0 0 0 = 1", "values 2 0 = 1",
            "addFact 2 7 0 0 = 2", "values 2 0 = 2", "dropRule 0 = 1", "values 1 {0 1} = 0");
        allRows(21, "the number of unlike values in the rows of the table.").says("values 3 {0 1 2} = 8",
            "values 2 0 = 8");
        sentence(21, "if there is no such table or column", "values " + NO_TABLE + " 0 = INDEX",
            "values 0 {-1 2 3 MAX MIN} = INDEX", "values 2 {-1 1 2} = INDEX", "addTable 3 = 3", "values 3 2 = 0",
            "values 3 {-1 3} = INDEX");
    }

    private static void lower() {
        sentence(22,
            "the greatest value of the first column that is less than a value. // `table`: number of a table // "
            + "the greatest such value in a row of the table.", "lower 0 4 = 3", "lower 0 3 = 2", "lower 0 2 = 1",
            "lower 0 1 = 0", "addFact 1 6 0 0 = 1", "lower 1 {7 8} = 6", "lower 1 {4 5 6} = 3",
            "removeFact 0 1 2 0 = 5", "lower 0 2 = 0", "addTable 3 = 3", "addFact 3 5 7 7 = 1", "addFact 3 2 0 7 = 2",
            "addFact 3 2 7 0 = 3", "lower 3 {6 7 8} = 5", "lower 3 {3 4 5} = 2", "lower 3 {0 1 2} = NOSUCH");
        sentence(22, "`value`: 0 to 8", "lower 0 8 = 3", "lower 0 0 = NOSUCH", "addFact 2 7 0 0 = 2", "lower 2 8 = 7",
            "lower 2 7 = 3", "addFact 2 0 0 0 = 3", "lower 2 1 = 0", "lower 2 0 = NOSUCH");
        sentence(22, "if there is no such table", "lower " + NO_TABLE + " 1 = INDEX", "lower 3 9 = INDEX");
        sentence(22, "if value is out of range", "lower 0 {9 -1 16 MAX MIN} = ARGUMENT", "lower 2 {9 -1} = ARGUMENT",
            "addTable 1 = 3", "lower 3 {9 -1} = ARGUMENT");
        sentence(22, "if there is none", "lower {0 1 2} 0 = NOSUCH", "lower 2 {1 2 3} = NOSUCH", "lower 2 4 = 3",
            "addTable 3 = 3", "lower 3 {0 1 8} = NOSUCH", "removeFact 2 3 0 0 = 0", "lower 2 8 = NOSUCH",
            "addFact 0 7 7 0 = 7", "addFact 1 7 7 0 = 1", "lower {1 2} 0 = NOSUCH");
    }
}
