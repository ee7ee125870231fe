/** Each sentence of the promises 23 to 33: queries. */
public final class Promises23To33Test {
    private static final String NO_QUERY = "{-1 4 5 8 MAX MIN}";

    public static void main(String[] args) {
        atomCount();
        answers();
        answerAt();
        seek();
        leaps();
        groups();
        groupSize();
        idleRows();
        isTree();
        cover();
        bound();
        fullBounds();
        Script.endOf("promise", 23, 33);
    }

    private static Script sentence(int promise, String words, String... lines) {
        return Script.sentence("promise " + promise, words, lines);
    }

    /** A run in which table 2 has all 8 rows, and table 3, of three columns, all 512. */
    private static Script allRows(int promise, String words) {
        return sentence(promise, words, "addFact 2 0 0 0 = 2", "addFact 2 1 0 0 = 3", "addFact 2 2 0 0 = 4",
            "addFact 2 4 0 0 = 5", "addFact 2 5 0 0 = 6", "addFact 2 6 0 0 = 7", "addFact 2 7 0 0 = 8",
            "addTable 3 = 3", "addRule 3 0 1 2 = 2", "addRuleAtom 2 2 0 0 0 false = 1",
            "addRuleAtom 2 2 1 0 0 false = 2", "addRuleAtom 2 2 2 0 0 false = 3");
    }

    private static void atomCount() {
        sentence(23, "the number of atoms of a query. // `query`: 0 to 3", "atomCount 0 = 3", "atomCount 1 = 2",
            "atomCount {2 3} = 0", "addAtom 3 0 0 1 0 = 0", "atomCount 3 = 1", "atomCount 2 = 0", "undo = 0",
            "atomCount 3 = 0");
        sentence(23, "0 to 5.", "addAtom 0 0 0 1 0 = 3", "addAtom 0 0 0 1 0 = 4", "atomCount 0 = 5",
            "addAtom 0 0 0 1 0 = STATE", "atomCount 0 = 5", "clearQuery 0 = 5", "atomCount 0 = 0");
        sentence(23, "if there is no such query", "atomCount " + NO_QUERY + " = INDEX");
    }

    private static void answers() {
        sentence(24, "the number of answers of a query. // `query`: 0 to 3", "answers {0 1} = 3", "answers {2 3} = 0",
            "addFact 2 4 0 0 = 2", "answers 1 = 7", "removeFact 0 2 0 0 = 5", "answers 0 = 0", "addAtom 3 0 0 1 0 = 0",
            "answers 3 = 5", "addAtom 3 0 2 3 0 = 1", "answers 3 = 25", "setOrder 3 3210 = 123", "answers 3 = 25");
        sentence(24, "0 to 4096.", "clearQuery 0 = 3", "answers 0 = 0", "removeFact 2 3 0 0 = 0", "answers 1 = 0",
            "addAtom 2 0 0 0 0 = 0", "answers 2 = 0");
        allRows(24, "0 to 4096.").says("addAtom 2 2 0 0 0 = 0", "answers 2 = 8", "addAtom 2 2 1 0 0 = 1",
            "answers 2 = 64", "addAtom 2 2 2 0 0 = 2", "answers 2 = 512", "addAtom 2 2 3 0 0 = 3", "answers 2 = 4096",
            "setOrder 2 3210 = 123", "answers 2 = 4096", "addAtom 2 3 1 3 0 = 4", "answers 2 = 4096",
            "removeFact 2 7 0 0 = 7", "answers 2 = 2401");
        sentence(24, "if there is no such query", "answers " + NO_QUERY + " = INDEX");
    }

    private static void answerAt() {
        sentence(25, "a value of an answer. // `query`: 0 to 3", "answerAt 0 1 0 = 1", "answerAt 0 1 1 = 2",
            "answerAt 0 1 2 = 0", "answerAt 1 2 0 = 2", "answerAt 1 2 1 = 3", "addAtom 3 0 3 1 0 = 0",
            "answerAt 3 5 3 = 3", "answerAt 3 5 1 = 4", "addAtom 2 2 0 0 0 = 0", "answerAt 2 0 0 = 3");
        sentence(25, "`answer`: number of an answer", "answerAt 0 0 0 = 0", "answerAt 0 1 0 = 1", "answerAt 0 2 0 = 2",
            "answerAt 0 3 0 = INDEX", "setOrder 0 2103 = 123", "answerAt 0 0 2 = 0", "answerAt 0 0 0 = 1",
            "answerAt 0 2 2 = 2", "answerAt 0 2 0 = 0");
        sentence(25, "`variable`: 0 to 3", "addAtom 2 0 3 0 0 = 0", "answerAt 2 0 0 = 0", "answerAt 2 0 3 = 2",
            "answerAt 2 1 0 = 1", "answerAt 2 1 3 = 0");
        allRows(25, "0 to 7.").says("addAtom 2 2 0 0 0 = 0", "addAtom 2 2 1 0 0 = 1", "addAtom 2 2 2 0 0 = 2",
            "addAtom 2 2 3 0 0 = 3", "answerAt 2 0 {0 1 2 3} = 0", "answerAt 2 4095 {0 1 2 3} = 7",
            "answerAt 2 668 0 = 1", "answerAt 2 668 1 = 2", "answerAt 2 668 2 = 3", "answerAt 2 668 3 = 4",
            "answerAt 2 {63 4096 MAX MIN} 4 = INDEX", "answerAt 2 4096 0 = INDEX", "answerAt 2 63 {0 1} = 0",
            "answerAt 2 63 {2 3} = 7", "answerAt 2 64 1 = 1", "answerAt 2 64 {0 2 3} = 0");
        sentence(25, "if there is no such query or answer", "answerAt " + NO_QUERY + " 0 0 = INDEX",
            "answerAt 0 {-1 3 4 4096 MAX MIN} 0 = INDEX", "answerAt 1 3 0 = INDEX", "answerAt {2 3} {0 -1} 0 = INDEX",
            "addAtom 2 0 0 0 0 = 0", "answerAt 2 0 0 = INDEX");
        sentence(25, ", or the variable does not stand in the query", "answerAt 0 0 3 = INDEX",
            "answerAt 1 0 {2 3} = INDEX", "answerAt 0 0 {-1 4 5 8 31 32 MAX MIN} = INDEX", "addAtom 0 2 3 0 0 = 3",
            "answerAt 0 0 3 = 3");
    }

    private static void seek() {
        sentence(26,
            "the number of the first answer that is not less than some values // the number of an answer. // `query`: 0 to 3",
            "seek 0 0 0 0 0 = 0", "seek 0 0 1 2 0 = 0", "seek 0 0 1 3 0 = 1", "seek 0 0 2 0 0 = 1",
            "seek 0 1 2 0 0 = 1", "seek 0 1 2 1 0 = 2", "seek 0 2 0 1 0 = 2", "seek 1 0 3 0 0 = 0",
            "seek 1 0 4 0 0 = 1", "seek 1 2 3 0 0 = 2", "addAtom 3 0 0 1 0 = 0", "seek 3 0 1 0 0 = 0",
            "seek 3 2 1 0 0 = 4");
        // The order is 2 3 1 0, and the variables of the query are 1 and 3: the first value is that of 3.
        sentence(26,
            ", in the order of the query: the values of the variables of the query, the first one of its order first.",
            "addAtom 2 0 1 3 0 = 0", "setOrder 2 2310 = 123", "seek 2 0 2 0 0 = 0", "seek 2 0 3 0 0 = 1",
            "seek 2 1 0 0 0 = 1", "seek 2 2 0 0 0 = 2", "seek 2 2 1 0 0 = 3", "seek 2 2 2 0 0 = 4",
            "seek 2 3 2 0 0 = 4", "seek 2 4 3 0 0 = 5", "setOrder 2 1023 = 2310", "seek 2 0 1 0 0 = 0",
            "seek 2 2 1 0 0 = 4", "seek 2 3 4 0 0 = 5", "addAtom 2 2 0 0 0 = 1", "seek 2 0 3 1 0 = 0",
            "seek 2 0 3 2 0 = 1", "seek 2 0 4 0 0 = 2", "seek 2 2 3 1 7 = 4", "setOrder 2 321 = 1023",
            "seek 2 3 1 0 0 = 1", "seek 2 3 4 3 0 = 5", "seek 2 3 2 2 0 = 4");
        sentence(26, "(The other numbers do not matter", "seek 1 0 3 {0 7} {0 7} = 0", "seek 1 0 4 {0 7} {0 7} = 1",
            "seek 1 2 3 {0 7} {0 7} = 2", "seek 0 2 0 1 {0 7} = 2", "seek 0 1 2 0 {0 7} = 1", "addAtom 2 2 3 0 0 = 0",
            "seek 2 3 {0 7} {0 7} {0 7} = 0", "seek 2 4 {0 7} 0 0 = NOSUCH", "seek 3 {0 7} {0 7} 0 0 = NOSUCH");
        sentence(26, ", but must be values.)", "seek 1 0 3 {8 -1} 0 = ARGUMENT", "seek 1 0 3 0 {8 -1} = ARGUMENT",
            "seek 3 {8 -1} 0 0 0 = ARGUMENT", "seek 3 0 0 0 {8 -1 MAX MIN} = ARGUMENT",
            "seek 0 0 0 0 {8 -1} = ARGUMENT");
        sentence(26, "`first`: value of the variable of the query that is first in its order, 0 to 7",
            "seek 0 0 7 7 7 = 1", "seek 0 1 0 0 0 = 1", "seek 0 2 0 0 0 = 2", "seek 0 {3 7} 0 0 0 = NOSUCH",
            "seek 0 {8 -1} 0 0 0 = ARGUMENT");
        sentence(26, "`second`: value of the second one, 0 to 7", "seek 0 1 {0 1 2} 0 0 = 1", "seek 0 1 {3 7} 0 0 = 2",
            "seek 0 1 {8 -1} 0 0 = ARGUMENT");
        sentence(26, "`third`: value of the third one, 0 to 7", "seek 0 0 1 {0 1 2} 0 = 0", "seek 0 0 1 {3 7} 0 = 1",
            "seek 0 0 1 {8 -1} 0 = ARGUMENT");
        sentence(26, "`fourth`: value of the fourth one, 0 to 7", "addAtom 2 0 0 1 0 = 0", "addAtom 2 0 2 3 0 = 1",
            "seek 2 0 1 0 {0 1} = 0", "seek 2 0 1 0 2 = 1", "seek 2 0 1 0 {3 7} = 2", "seek 2 0 1 0 {8 -1} = ARGUMENT",
            "seek 2 3 4 3 4 = 35", "seek 2 3 4 3 5 = NOSUCH");
        allRows(26, "the number of an answer.").says("addAtom 2 2 0 0 0 = 0", "addAtom 2 2 1 0 0 = 1",
            "addAtom 2 2 2 0 0 = 2", "addAtom 2 2 3 0 0 = 3", "seek 2 7 7 7 7 = 4095", "seek 2 1 2 3 4 = 668",
            "seek 2 0 0 0 0 = 0", "seek 2 7 0 0 0 = 3584");
        sentence(26, "if there is no such query", "seek " + NO_QUERY + " 0 0 0 0 = INDEX", "seek 4 8 8 8 8 = INDEX");
        sentence(26, "if a value is out of range", "seek 0 {8 -1 MAX MIN} 0 0 0 = ARGUMENT",
            "seek 0 0 {8 -1 MAX MIN} 0 0 = ARGUMENT", "seek 0 0 0 {8 -1 MAX MIN} 0 = ARGUMENT",
            "seek 0 0 0 0 {8 -1 MAX MIN} = ARGUMENT", "seek 0 7 7 7 8 = ARGUMENT", "seek 2 8 0 0 0 = ARGUMENT");
        sentence(26, "if all answers are less", "seek 0 2 0 2 0 = NOSUCH", "seek 0 7 7 7 7 = NOSUCH",
            "seek 1 2 4 0 0 = NOSUCH", "seek {2 3} 0 0 0 0 = NOSUCH", "removeFact 2 3 0 0 = 0",
            "seek 1 0 0 0 0 = NOSUCH");
    }

    private static void leaps() {
        // The variable 1 takes 3 askings for 3 alone and one that finds none, the variable 0 then 3 and one.
        sentence(27,
            "Counts the leaps with which all answers of a query are found (section 3). // `query`: 0 to 3 "
            + "// the number of leaps;",
            "leaps 0 = 41", "leaps 1 = 19", "setOrder 1 1023 = 123", "leaps 1 = 8", "addAtom 3 2 0 0 0 = 0",
            "leaps 3 = 2", "addAtom 2 0 0 1 0 = 0", "leaps 2 = 15", "removeFact 0 3 4 0 = 5", "leaps 2 = 12");
        sentence(27, "0 without atoms.", "leaps {2 3} = 0", "clearQuery 0 = 3", "leaps 0 = 0", "setOrder 0 3210 = 123",
            "leaps 0 = 0", "undo = 1", "undo = 0", "leaps 0 = 41");
        sentence(27, "if there is no such query", "leaps " + NO_QUERY + " = INDEX");
        // No asking more and none less where all rows are there: 9 for each begin of a variable.
        allRows(27, "the number of leaps;").says("addAtom 2 3 0 1 2 = 0", "leaps 2 = 657", "addAtom 2 2 3 0 0 = 1",
            "leaps 2 = 5265", "addAtom 2 2 3 0 0 = 2", "leaps 2 = 9361", "setOrder 2 3210 = 123", "leaps 2 = 5273");
    }

    private static void groups() {
        sentence(28, "how many unlike values a variable has in the answers. // the number.", "groups 0 {0 1 2} = 3",
            "groups 1 0 = 3", "groups 1 1 = 1", "addFact 2 4 0 0 = 2", "groups 1 1 = 2", "groups 1 0 = 4",
            "removeFact 0 2 0 0 = 5", "groups 0 0 = 0", "addAtom 2 0 0 1 0 = 0", "groups 2 0 = 4", "groups 2 1 = 4");
        sentence(28, "`query`: 0 to 3 // `variable`: 0 to 3", "addAtom 3 0 3 0 0 = 0", "groups 3 3 = 4",
            "groups 3 0 = 5", "setOrder 3 3210 = 123", "groups 3 3 = 4", "groups 3 0 = 5", "groups 0 0 = 3");
        allRows(28, "the number.").says("addAtom 2 3 0 1 3 = 0", "groups 2 {0 1 3} = 8", "removeFact 2 7 0 0 = 7",
            "groups 2 {0 1 3} = 7");
        sentence(28, "if there is no such query", "groups " + NO_QUERY + " 0 = INDEX");
        sentence(28, ", or the variable does not stand in it", "groups 0 {3 -1 4 8 31 32 MAX MIN} = INDEX",
            "groups 1 {2 3} = INDEX", "groups 2 {0 1 2 3} = INDEX", "addAtom 2 0 3 3 0 = 0", "groups 2 3 = 0",
            "groups 2 {0 1 2} = INDEX", "clearQuery 2 = 1", "groups 2 3 = INDEX");
    }

    private static void groupSize() {
        sentence(29, "Counts the answers in which a variable has a value. // the number.", "groupSize 0 0 {0 1 2} = 1",
            "groupSize 0 0 {3 7} = 0", "groupSize 1 1 3 = 3", "groupSize 1 1 {0 2 4} = 0", "addAtom 2 0 0 1 0 = 0",
            "groupSize 2 0 0 = 2", "groupSize 2 0 {1 3} = 1", "groupSize 2 1 2 = 2", "groupSize 2 1 {0 1 3 4} = 1",
            "groupSize 2 0 4 = 0");
        sentence(29, "`query`: 0 to 3 // `variable`: 0 to 3", "addAtom 3 0 3 0 0 = 0", "groupSize 3 3 0 = 2",
            "groupSize 3 0 0 = 1", "setOrder 3 3210 = 123", "groupSize 3 3 0 = 2", "groupSize 3 0 2 = 2");
        allRows(29, "`value`: 0 to 7 // the number.").says("addAtom 2 3 0 1 3 = 0", "groupSize 2 {0 1 3} {0 7} = 64",
            "addAtom 2 2 2 0 0 = 1", "groupSize 2 {0 1 2 3} {0 7} = 512", "removeFact 2 0 0 0 = 7",
            "groupSize 2 2 0 = 0", "groupSize 2 2 7 = 343");
        sentence(29, "if there is no such query", "groupSize " + NO_QUERY + " 0 0 = INDEX", "groupSize 4 0 8 = INDEX");
        sentence(29, ", or the variable does not stand in it", "groupSize 0 {3 -1 4 8 31 32 MAX MIN} 0 = INDEX",
            "groupSize 0 3 8 = INDEX", "groupSize 1 {2 3} 3 = INDEX", "groupSize 2 {0 1 2 3} 0 = INDEX",
            "addAtom 2 2 3 0 0 = 0", "groupSize 2 3 3 = 1", "groupSize 2 {0 1 2} 3 = INDEX");
        sentence(29, "if value is out of range", "groupSize 0 0 {8 -1 9 MAX MIN} = ARGUMENT",
            "groupSize 1 1 {8 -1} = ARGUMENT");
    }

    private static void idleRows() {
        sentence(30,
            "Counts the rows of the table of an atom that are idle: those that the atom makes with no answer of the query. "
            + "// the number.",
            "idleRows 0 {0 1 2} = 3", "idleRows 1 0 = 13", "idleRows 1 1 = 0", "addFact 2 7 0 0 = 2",
            "idleRows 1 1 = 1", "addFact 1 7 3 0 = 1", "idleRows 1 0 = 14", "addAtom 2 1 0 0 0 = 0",
            "idleRows 2 0 = 15", "addFact 1 7 7 0 = 2", "idleRows 2 0 = 15", "removeFact 0 2 0 0 = 5",
            "idleRows 0 {0 1 2} = 5");
        // A row that is made with many answers is not idle, and counts once.
        sentence(30, "Counts the rows of the table of an atom that are idle", "addAtom 2 0 0 1 0 = 0",
            "addAtom 2 0 2 3 0 = 1", "idleRows 2 {0 1} = 0", "addAtom 2 2 3 0 0 = 2", "idleRows 2 0 = 0",
            "idleRows 2 1 = 5", "idleRows 2 2 = 0", "addAtom 2 2 0 0 0 = 3", "idleRows 2 0 = 5");
        sentence(30, "`query`: 0 to 3 // `atom`: number of an atom of the query", "addAtom 3 0 0 1 0 = 0",
            "addAtom 3 0 1 0 0 = 1", "addAtom 3 1 0 1 0 = 2", "addAtom 3 2 2 0 0 = 3", "addAtom 3 1 2 3 0 = 4",
            "idleRows 3 {0 1} = 4", "idleRows 3 2 = 14", "idleRows 3 3 = 0", "idleRows 3 4 = 15", "idleRows 0 2 = 3");
        sentence(30, "if there is no such query or atom", "idleRows " + NO_QUERY + " 0 = INDEX",
            "idleRows 0 {-1 3 4 5 MAX MIN} = INDEX", "idleRows 1 2 = INDEX", "idleRows {2 3} {0 -1} = INDEX",
            "clearQuery 0 = 3", "idleRows 0 0 = INDEX");
    }

    private static void isTree() {
        sentence(31, "Tells whether a query is a tree (section 5). // `query`: 0 to 3 // true if so.",
            "isTree 0 = false", "isTree 1 = true", "isTree {2 3} = true", "addAtom 3 0 0 1 0 = 0",
            "addAtom 3 0 1 2 0 = 1", "isTree 3 = true", "addAtom 3 0 2 3 0 = 2", "isTree 3 = true",
            "addAtom 3 0 3 0 0 = 3", "isTree 3 = false", "addAtom 3 0 0 2 0 = 4", "isTree 3 = false", "undo = 4",
            "undo = 3", "isTree 3 = true");
        sentence(31, "if there is no such query", "isTree " + NO_QUERY + " = INDEX");
    }

    private static void cover() {
        sentence(32, "the least size of a cover in halves (section 5). // `query`: 0 to 3 // the number of halves;",
            "cover 0 = 3", "cover 1 = 2", "addAtom 3 2 0 0 0 = 0", "cover 3 = 2", "addAtom 3 2 0 0 0 = 1",
            "cover 3 = 2", "addAtom 3 2 1 0 0 = 2", "cover 3 = 4", "addAtom 2 0 0 1 0 = 0", "addAtom 2 0 1 2 0 = 1",
            "cover 2 = 4", "addAtom 2 0 2 3 0 = 2", "cover 2 = 4", "addAtom 2 0 3 0 0 = 3", "cover 2 = 4",
            "addAtom 2 0 0 2 0 = 4", "cover 2 = 4");
        sentence(32, "the number of halves;", "addTable 3 = 3", "addAtom 2 3 0 1 2 = 0", "cover 2 = 2",
            "addAtom 2 3 1 2 3 = 1", "cover 2 = 4", "addAtom 2 3 2 3 0 = 2", "cover 2 = 3", "addAtom 2 3 3 0 1 = 3",
            "cover 2 = 3", "addAtom 2 2 3 0 0 = 4", "cover 2 = 3", "removeFact 2 3 0 0 = 0", "cover 2 = 3");
        sentence(32, "0 without atoms.", "cover {2 3} = 0", "clearQuery 0 = 3", "cover 0 = 0");
        sentence(32, "if there is no such query", "cover " + NO_QUERY + " = INDEX");
    }

    private static void bound() {
        sentence(33,
            "the least bound that a cover in halves gives: the product, over the atoms of the query, of the size of the atom "
            + "to the power of its halves // `query`: 0 to 3 // the product", "bound 0 = 216", "bound 1 = 256",
            "addAtom 3 0 0 1 0 = 0", "bound 3 = 36", "addAtom 3 0 1 2 0 = 1", "bound 3 = 1296", "addAtom 3 1 2 0 0 = 2",
            "bound 3 = 576", "addFact 2 4 0 0 = 2", "bound 1 = 256", "addAtom 2 2 0 0 0 = 0", "bound 2 = 4",
            "addAtom 2 2 1 0 0 = 1", "bound 2 = 16");
        sentence(33, "(1 for 0 halves)", "addAtom 2 0 0 1 0 = 0", "bound 2 = 36", "addAtom 2 1 0 1 0 = 1",
            "bound 2 = 36", "addAtom 2 2 0 0 0 = 2", "bound 2 = 36", "addAtom 2 2 1 0 0 = 3", "bound 2 = 1",
            "addAtom 2 1 2 2 0 = 4", "bound 2 = 9");
        // The least size is 2 halves of the 16 rows; the least product is 2 halves of each of the tables of one row.
        sentence(33, ", for the cover for which this is least.", "addAtom 2 1 0 1 0 = 0", "addAtom 2 2 0 0 0 = 1",
            "addAtom 2 2 1 0 0 = 2", "cover 2 = 2", "bound 2 = 1", "addFact 2 4 0 0 = 2", "addFact 2 5 0 0 = 3",
            "addFact 2 6 0 0 = 4", "bound 2 = 256", "addFact 2 7 0 0 = 5", "bound 2 = 256", "removeFact 2 7 0 0 = 4",
            "removeFact 2 6 0 0 = 3", "bound 2 = 81");
        sentence(33, ", for the cover for which this is least.", "addTable 1 = 3", "addAtom 0 3 0 0 0 = 3",
            "bound 0 = 0", "cover 0 = 3", "addFact 3 5 0 0 = 1", "bound 0 = 36", "addFact 3 4 0 0 = 2", "bound 0 = 144",
            "addFact 3 3 0 0 = 3", "bound 0 = 216", "addAtom 0 0 3 3 0 = 4", "bound 0 = 0", "addFact 0 7 7 0 = 7",
            "bound 0 = 343");
        sentence(33, "1 without atoms.", "bound {2 3} = 1", "clearQuery 0 = 3", "bound 0 = 1");
        sentence(33, "if there is no such query", "bound " + NO_QUERY + " = INDEX");
    }

    private static void fullBounds() {
        // Two halves for each of 5 atoms of 512 rows would be 2 to the power of 90.
        allRows(33, ", which is less than 2 to the power of 63").says("addAtom 2 3 0 1 2 = 0", "bound 2 = 262144",
            "addAtom 2 3 1 2 3 = 1", "bound 2 = 68719476736", "addAtom 2 3 2 3 0 = 2", "bound 2 = 134217728",
            "addAtom 2 3 3 0 1 = 3", "bound 2 = 134217728", "addAtom 2 3 0 1 2 = 4", "bound 2 = 134217728",
            "cover 2 = 3");
        allRows(33, ", and never less than the square of the number of answers;").says("addAtom 2 2 0 0 0 = 0",
            "answers 2 = 8", "bound 2 = 64", "addAtom 2 2 1 0 0 = 1", "answers 2 = 64", "bound 2 = 4096",
            "addAtom 2 2 2 0 0 = 2", "bound 2 = 262144", "addAtom 2 2 3 0 0 = 3", "answers 2 = 4096",
            "bound 2 = 16777216", "addAtom 2 3 0 1 2 = 4", "bound 2 = 16777216");
    }
}
