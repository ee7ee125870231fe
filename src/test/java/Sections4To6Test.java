import java.util.ArrayList;
import java.util.List;

/** Each sentence of the sections 4 to 6 of the document: rules; trees, covers; changes, undo. */
public final class Sections4To6Test {
    /** The ten calls that the document lists under "Changes", each with numbers with which it is one for a new object. */
    private static final String[] CHANGES = {"addTable 1", "addFact 1 7 7 0", "removeFact 2 3 0 0", "addAtom 2 0 0 1 0",
        "clearQuery 1", "setOrder 0 3210", "clearIdle 0 0", "addRule 2 0 0 0", "addRuleAtom 0 2 0 0 0 true",
        "addRuleAtom 0 2 1 0 0 false", "dropRule 0", "dropRule 1"};

    private static final String[] REFUSED = {"addTable 0 = ARGUMENT", "addFact 0 0 1 0 = STATE", "addFact 3 0 0 0 = INDEX",
        "addFact 0 8 0 0 = ARGUMENT", "removeFact 0 7 7 0 = NOSUCH", "removeFact 3 0 0 0 = INDEX",
        "removeFact 0 0 0 1 = ARGUMENT", "addAtom 4 0 0 1 0 = INDEX", "addAtom 0 0 0 4 0 = ARGUMENT",
        "clearQuery 4 = INDEX", "setOrder 4 123 = INDEX", "setOrder 0 1123 = ARGUMENT", "clearIdle 4 0 = INDEX",
        "clearIdle 0 3 = INDEX", "addRule 3 0 0 0 = INDEX", "addRule 0 0 0 1 = ARGUMENT",
        "addRuleAtom 2 0 0 1 0 false = INDEX", "addRuleAtom 0 3 0 0 0 true = INDEX",
        "addRuleAtom 0 0 0 4 0 true = ARGUMENT", "addRuleAtom 0 1 0 1 0 true = STATE", "dropRule 2 = INDEX"};

    private static final String[] READS = {"tableCount", "columns 0", "factCount 0", "rowCount 1", "isFact 0 0 1 0",
        "reasons 1 0 2 0", "rowAt 1 0 0", "firstFrom 1 0 0 0", "values 1 0", "lower 1 8", "atomCount 0", "answers 0",
        "answerAt 0 0 0", "seek 0 0 0 0 0", "leaps 0", "groups 0 0", "groupSize 0 0 0", "idleRows 0 0", "isTree 0",
        "cover 0", "bound 0", "ruleCount", "isIdle 0", "layerOf 0", "rounds", "firings 0", "meanReasons",
        "factShare", "errors", "checksum"};

    public static void main(String[] args) {
        rules();
        idleRules();
        layers();
        layersRefused();
        rounds();
        roundsThatCount();
        reasons();
        reasonsWithNotFirst();
        trees();
        treesInAnyOrder();
        covers();
        coversInAnyOrder();
        changes();
        latestChanges();
        undoing();
        exceptionsInOrder();
        refusedCalls();
        whatIsNotThere();
        whatIsNotAsTold();
        Script.endOf("section", 4, 6);
    }

    private static void rules() {
        Script.sentence("section 4", "There are up to 5 rules, numbered from 0.", "ruleCount = 2", "isIdle 0 = false",
            "isIdle {-1 2} = INDEX", "addRule 0 0 0 0 = 2", "addRule 1 0 0 0 = 3", "addRule 2 0 0 0 = 4",
            "addRule 2 0 0 0 = STATE", "ruleCount = 5", "isIdle 4 = true", "isIdle 5 = INDEX",
            "addRuleAtom 4 0 0 1 0 false = 1", "firings 4 = 6", "dropRule 0 = 4", "addRule 2 0 0 0 = 4",
            "addRule 2 0 0 0 = STATE");
        Script.sentence("section 4",
            "A rule has a head, which is a table with a variable for each of its columns, as an atom", "addTable 3 = 3",
            "addRule 3 1 0 1 = 2", "addRuleAtom 2 0 0 1 0 false = 1", "rowCount 3 = 6", "reasons 3 1 0 1 = 1",
            "reasons 3 2 0 2 = 1", "reasons 3 0 2 0 = 1", "reasons 3 0 1 0 = 0", "addRule 0 3 3 0 = 3",
            "addRuleAtom 3 2 3 0 0 false = 1", "reasons 0 3 3 0 = 1", "rowCount 0 = 7");
        Script.sentence("section 4", ", and up to 4 atoms", "addRuleAtom 0 0 0 1 0 false = 2",
            "addRuleAtom 0 2 0 0 0 true = 3", "addRuleAtom 0 2 1 0 0 true = 4", "addRuleAtom 0 0 0 1 0 false = STATE",
            "addRuleAtom 0 2 0 0 0 true = STATE", "firings 0 = 4", "addRuleAtom 1 0 0 1 0 false = 3",
            "addRuleAtom 1 0 0 1 0 false = 4", "addRuleAtom 1 0 0 1 0 false = STATE", "addRule 1 0 0 0 = 2",
            "addRuleAtom 2 2 0 0 0 true = 1", "addRuleAtom 2 2 0 0 0 true = 2", "addRuleAtom 2 2 0 0 0 true = 3",
            "addRuleAtom 2 2 0 0 0 false = 4", "addRuleAtom 2 2 0 0 0 {true false} = STATE", "firings 2 = 0",
            "isIdle 2 = false");
        Script.sentence("section 4", ", each of which is with not or without.", "addTable 1 = 3", "addRule 3 0 0 0 = 2",
            "addRuleAtom 2 0 0 1 0 false = 1", "rowCount 3 = 4", "addRuleAtom 2 2 0 0 0 true = 2", "rowCount 3 = 3",
            "undo = 3", "addRuleAtom 2 2 0 0 0 false = 2", "rowCount 3 = 1", "rowAt 3 0 0 = 3");
    }

    private static void idleRules() {
        Script.sentence("section 4", "A rule is idle if it has no atom without not", "isIdle {0 1} = false",
            "addRule 2 0 0 0 = 2", "isIdle 2 = true", "addRuleAtom 2 1 0 1 0 true = 1", "isIdle 2 = true",
            "addRuleAtom 2 0 0 1 0 true = 2", "isIdle 2 = true", "addRuleAtom 2 0 0 1 0 false = 3", "isIdle 2 = false",
            "undo = 3", "isIdle 2 = true");
        Script.sentence("section 4", ", or if a variable of its head", "addRule 0 0 1 0 = 2",
            "addRuleAtom 2 2 0 0 0 false = 1", "isIdle 2 = true", "addRuleAtom 2 2 3 0 0 false = 2", "isIdle 2 = true",
            "addRuleAtom 2 2 1 0 0 true = 3", "isIdle 2 = true", "addRuleAtom 2 2 1 0 0 false = 4", "isIdle 2 = false",
            "addTable 3 = 3", "addRule 3 3 3 2 = 3", "addRuleAtom 3 2 3 0 0 false = 1", "isIdle 3 = true",
            "addRuleAtom 3 2 2 0 0 false = 2", "isIdle 3 = false");
        Script.sentence("section 4", ", or of an atom with not", "addRuleAtom 0 2 3 0 0 true = 2", "isIdle 0 = true",
            "addRuleAtom 0 2 2 0 0 true = 3", "isIdle 0 = true", "addRuleAtom 0 0 3 2 0 false = 4", "isIdle 0 = false",
            "isIdle 1 = false", "addRuleAtom 1 0 0 3 0 true = 3", "isIdle 1 = true");
        Script.sentence("section 4", ", stands in none of its atoms without not.", "addRule 0 0 1 0 = 2",
            "addRuleAtom 2 2 0 0 0 false = 1", "addRuleAtom 2 2 1 0 0 false = 2", "isIdle 2 = false",
            "addRuleAtom 2 0 1 0 0 true = STATE", "addRuleAtom 2 2 0 0 0 true = 3", "isIdle 2 = false",
            "addRuleAtom 2 2 2 0 0 true = 4", "isIdle 2 = true");
        Script.sentence("section 4", "Idle rules add nothing.", "addRule 2 0 0 0 = 2", "rowCount 2 = 1", "rounds = 4",
            "addRuleAtom 2 0 1 2 0 false = 1", "rowCount 2 = 1", "firings 2 = 0", "reasons 2 {0 1 2} 0 0 = 0",
            "rounds = 4", "addRuleAtom 2 0 0 1 0 true = 2", "rowCount 2 = 1", "addRuleAtom 2 0 0 1 0 false = 3",
            "rowCount 2 = 1", "removeFact 2 3 0 0 = 0", "rowCount 2 = 0", "addRuleAtom 0 0 0 3 0 true = 2",
            "rowCount 1 = 0", "firings {0 1} = 0", "rounds = 1", "meanReasons = 1.0", "errors = 0");
    }

    private static void layers() {
        Script.sentence("section 4", "The layers of the tables are the least numbers from 0 on", "layerOf {0 1 2} = 0",
            "addTable 2 = 3", "layerOf 3 = 0", "addRule 3 0 0 0 = 2", "addRuleAtom 2 0 0 0 0 true = 1", "layerOf 3 = 1",
            "addRuleAtom 2 1 0 0 0 true = 2", "layerOf 3 = 1", "layerOf {0 1 2} = 0", "dropRule 2 = 2",
            "layerOf 3 = 0");
        Script.sentence("section 4", "for which, for each rule and each of its atoms (idle or not)",
            "addRule 2 0 0 0 = 2", "layerOf 2 = 0", "addRuleAtom 2 0 1 2 0 true = 1", "isIdle 2 = true",
            "layerOf 2 = 1", "addRuleAtom 1 2 3 0 0 false = 3", "isIdle {0 1} = false", "layerOf 1 = 1",
            "addRule 0 3 3 0 = 3", "addRuleAtom 3 2 1 0 0 true = STATE", "dropRule 2 = 3", "layerOf {0 1 2} = 0");
        Script.sentence("section 4", ", the layer of the table of the head is not less than that of the atom",
            "addTable 1 = 3", "addTable 1 = 4", "addRule 3 0 0 0 = 2", "addRuleAtom 2 1 0 0 0 true = 1",
            "addRule 4 0 0 0 = 3", "addRuleAtom 3 2 0 0 0 false = 1", "layerOf 4 = 0",
            "addRuleAtom 3 3 0 0 0 false = 2", "layerOf 4 = 1", "addRule 2 0 0 0 = 4",
            "addRuleAtom 4 4 0 0 0 false = 1", "layerOf 2 = 1", "layerOf 3 = 1", "layerOf {0 1} = 0");
        Script.sentence("section 4", ", and greater than that if the atom is with not.", "addTable 1 = 3",
            "addTable 1 = 4", "addRule 3 0 0 0 = 2", "addRuleAtom 2 2 0 0 0 true = 1", "layerOf 3 = 1",
            "addRule 4 0 0 0 = 3", "addRuleAtom 3 2 0 0 0 true = 1", "layerOf 4 = 1", "addRuleAtom 3 3 0 0 0 true = 2",
            "layerOf 4 = 2", "addRuleAtom 1 4 0 0 0 true = 3", "layerOf 1 = 3", "addRule 0 0 0 0 = 4",
            "addRuleAtom 4 1 0 0 0 true = STATE", "layerOf 0 = 0", "layerOf 2 = 0");
    }

    private static void layersRefused() {
        String words = "An atom for which there would be no such numbers is refused.";
        Script.sentence("section 4", words).refuses("addRuleAtom 0 1 0 1 0 true = STATE",
            "addRuleAtom 1 1 0 1 0 true = STATE", "addRuleAtom 0 1 3 3 0 true = STATE");
        // A round way over two tables with one not in it, and one without.
        Script.sentence("section 4", words, "addRule 0 0 0 0 = 2").refuses("addRuleAtom 2 1 0 0 0 true = STATE").says(
            "addRuleAtom 2 1 0 0 0 false = 1", "layerOf {0 1} = 0").refuses("addRuleAtom {0 1 2} 0 0 0 0 true = STATE",
            "addRuleAtom {0 1 2} 1 0 0 0 true = STATE").says("addRuleAtom 0 2 0 0 0 true = 2", "layerOf {0 1} = 1");
        // A round way over five tables: five rules, one for each table, and each has the next table's atom.
        Script five = Script.sentence("section 4", words, "dropRule 0 = 1", "dropRule 0 = 0", "addTable 1 = 3",
            "addTable 1 = 4");
        for (int table = 0; table < 5; table++) {
            five.says("addRule " + table + " 0 0 0 = " + table);
        }
        for (int table = 4; table > 0; table--) {
            five.says("addRuleAtom " + table + " " + (table - 1) + " 0 0 0 true = 1", "layerOf " + table + " = 1");
        }
        five.says("layerOf 0 = 0", "layerOf 1 = 1", "layerOf 2 = 2", "layerOf 3 = 3", "layerOf 4 = 4");
        five.refuses("addRuleAtom 0 {0 1 2 3 4} 0 0 0 true = STATE", "addRuleAtom 0 {1 2 3 4} 0 0 0 false = STATE");
        five.says("addRuleAtom 0 0 0 0 0 false = 1", "layerOf 4 = 4");
    }

    private static void rounds() {
        // Rule 0 has the higher layer: it sees table 1 as it is in the end, and so finds nothing.
        Script.sentence("section 4", "The rows are made layer by layer, from layer 0 on.", "dropRule 0 = 1",
            "dropRule 0 = 0", "addRule 2 0 0 0 = 0", "addRuleAtom 0 0 0 1 0 false = 1",
            "addRuleAtom 0 1 0 1 0 true = 2", "rowCount 2 = 4", "rounds = 2", "addRule 1 0 1 0 = 1",
            "addRuleAtom 1 0 0 1 0 false = 1", "layerOf 2 = 1", "rowCount 1 = 6", "rowCount 2 = 1", "firings 0 = 0",
            "rounds = 3");
        // The fact 7 0 has rows from 7 on to 1, 2, 3 and 4 made.
        Script.sentence("section 4", "At first each table has its facts.", "addFact 1 7 0 0 = 1", "rowCount 1 = 21",
            "firings 1 = 24", "rounds = 4", "dropRule 0 = 1", "rowCount 1 = 5", "rounds = 4");
        // t3 from t2, t4 from t3, t1 from t4: each a round behind the other, whichever rule is first.
        String words = "In a round of a layer, each rule that is not idle, and whose head's table is in this layer, "
            + "is applied to the tables as they are when the round begins";
        Script.sentence("section 4", words, "dropRule 1 = 1", "dropRule 0 = 0", "addTable 1 = 3", "addTable 1 = 4",
            "addRule 3 0 0 0 = 0", "addRuleAtom 0 2 0 0 0 false = 1", "addRule 4 0 0 0 = 1",
            "addRuleAtom 1 3 0 0 0 false = 1", "addRule 1 0 0 0 = 2", "addRuleAtom 2 4 0 0 0 false = 1",
            "rowCount 1 = 1", "rounds = 4");
        Script.sentence("section 4", words, "dropRule 1 = 1", "dropRule 0 = 0", "addTable 1 = 3", "addTable 1 = 4",
            "addRule 1 0 0 0 = 0", "addRuleAtom 0 4 0 0 0 false = 1", "addRule 4 0 0 0 = 1",
            "addRuleAtom 1 3 0 0 0 false = 1", "addRule 3 0 0 0 = 2", "addRuleAtom 2 2 0 0 0 false = 1",
            "rowCount 1 = 1", "rounds = 4");
        Script.sentence("section 4",
            ": for all values of the variables of its atoms without not with which all of these fit "
            + "and no atom with not fits, the row of the head is a row.", "addTable 2 = 3", "addRule 3 2 0 0 = 2",
            "addRuleAtom 2 0 0 1 0 false = 1", "addRuleAtom 2 0 1 2 0 false = 2", "rowCount 3 = 8", "firings 2 = 8",
            "addRuleAtom 2 0 0 2 0 true = 3", "firings 2 = 7", "rowCount 3 = 7", "reasons 3 2 0 0 = 0",
            "reasons 3 3 1 0 = 1", "addRuleAtom 2 2 2 0 0 true = 4", "firings 2 = 5", "rowCount 3 = 5",
            "reasons 3 0 {0 1} 0 = 1", "reasons 3 {1 2 4} 2 0 = 1", "reasons 3 3 {0 1} 0 = 0");
        // Ways of up to 2, 4 edges and so on would need less rounds: rule 1 takes one edge more each round.
        Script.sentence("section 4", "What is new is added to the tables behind the round.", "rounds = 4",
            "removeFact 0 2 0 0 = 5", "removeFact 0 0 2 0 = 4", "rounds = 5", "addFact 0 4 5 0 = 5", "rounds = 6",
            "rowCount 1 = 15", "addFact 0 5 6 0 = 6", "rounds = 7", "addFact 0 6 7 0 = 7", "rounds = 8",
            "rowCount 1 = 28", "firings 1 = 21");
    }

    private static void roundsThatCount() {
        Script.sentence("section 4", "The layer ends with the first round that adds nothing (this one counts).",
            "dropRule 0 = 1", "dropRule 0 = 0", "addRule 1 0 1 0 = 0", "rounds = 0", "addRuleAtom 0 1 0 1 0 false = 1",
            "rounds = 1", "addFact 1 5 5 0 = 1", "rounds = 1", "addRuleAtom 0 0 0 1 0 false = 2", "rounds = 1",
            "addFact 1 0 1 0 = 2", "rounds = 1", "addRule 1 0 1 0 = 1", "addRuleAtom 1 0 0 1 0 false = 1", "rounds = 2",
            "rowCount 1 = 7");
        // All rows that the rules would add are facts: one round, which adds nothing.
        Script.sentence("section 4", "The layer ends with the first round that adds nothing (this one counts).",
            "dropRule 1 = 1", "addFact 1 0 1 0 = 1", "addFact 1 0 2 0 = 2", "addFact 1 1 2 0 = 3",
            "addFact 1 2 0 0 = 4", "addFact 1 2 3 0 = 5", "rounds = 2", "addFact 1 3 4 0 = 6", "rounds = 1",
            "rowCount 1 = 6");
        Script.sentence("section 4", "A layer without such rules has no rounds.", "dropRule 0 = 1", "rounds = 1",
            "dropRule 0 = 0", "rounds = 0", "addRule 2 0 0 0 = 0", "rounds = 0", "addRuleAtom 0 1 0 1 0 true = 1",
            "layerOf 2 = 1", "rounds = 0", "addRuleAtom 0 0 0 1 0 false = 2", "rounds = 2", "rowCount 2 = 4",
            "addRule 1 0 1 0 = 1", "rounds = 2", "addRuleAtom 1 0 1 1 0 false = 1", "isIdle 1 = true", "rounds = 2",
            "addRuleAtom 1 0 0 0 0 false = 2", "rounds = 3");
    }

    private static void reasons() {
        Script.sentence("section 4", "The reasons of a row of a table are: one if it is a fact;", "reasons 0 0 1 0 = 1",
            "reasons 2 3 0 0 = 1", "reasons 1 7 7 0 = 0", "addFact 1 7 7 0 = 1", "reasons 1 7 7 0 = 1",
            "reasons 1 0 1 0 = 2", "addFact 1 0 1 0 = 2", "reasons 1 0 1 0 = 3", "removeFact 1 0 1 0 = 1",
            "reasons 1 0 1 0 = 2");
        // 0 4: over 0 3 and 3 4 alone. 2 0: the edge, and over 2 2 and 2 0.
        Script.sentence("section 4",
            "and one for each rule that is not idle and has this table as its head's, and each choice of "
            + "values for the variables of its atoms without not", "reasons 1 0 4 0 = 1", "reasons 1 2 0 0 = 2",
            "reasons 1 0 3 0 = 1", "reasons 1 2 3 0 = 2", "addRule 1 2 0 0 = 2", "reasons 1 2 0 0 = 2",
            "addRuleAtom 2 0 0 1 0 false = 1", "reasons 1 2 0 0 = 2", "addRuleAtom 2 0 1 2 0 false = 2",
            "reasons 1 2 0 0 = 3", "rowCount 1 = 25", "addRule 2 0 0 0 = 3", "addRuleAtom 3 1 0 1 0 false = 1",
            "reasons 2 3 0 0 = 6", "reasons 2 0 0 0 = 5", "reasons 1 2 0 0 = 3");
        // The first round gives 0 2 by its edge alone; in the end it is given over 0 1 and 0 0 as well.
        Script.sentence("section 4", ", with which, by the tables as they are in the end", "reasons 1 0 2 0 = 3",
            "dropRule 0 = 1", "reasons 1 0 2 0 = 0", "addFact 1 0 0 0 = 1", "reasons 1 0 2 0 = 2",
            "addFact 0 3 0 0 = 7", "reasons 1 0 0 0 = 3", "rowCount 1 = 5");
        Script.sentence("section 4", ", all of these fit, no atom with not fits, and the row of the head is this one.",
            "addRule 2 1 0 0 = 2", "addRuleAtom 2 1 0 1 0 false = 1", "reasons 2 2 0 0 = 3", "reasons 2 3 0 0 = 4",
            "reasons 2 4 0 0 = 4", "reasons 2 5 0 0 = 0", "addRuleAtom 2 0 0 1 0 true = 2", "reasons 2 2 0 0 = 1",
            "reasons 2 3 0 0 = 3", "reasons 2 4 0 0 = 3", "addRuleAtom 2 0 1 0 0 false = 3", "reasons 2 2 0 0 = 0",
            "reasons 2 {0 1} 0 0 = 1", "reasons 2 3 0 0 = 1", "reasons 2 4 0 0 = 0", "firings 2 = 2");
    }

    private static void reasonsWithNotFirst() {
        // The atom with not is the first one: 0 2 and 2 0 are there the other way round as well.
        Script.sentence("section 4", ", all of these fit, no atom with not fits, and the row of the head is this one.",
            "addRule 2 1 0 0 = 2", "addRuleAtom 2 0 1 0 0 true = 1", "addRuleAtom 2 0 0 1 0 false = 2", "firings 2 = 4",
            "rowCount 2 = 4", "reasons 2 {1 2 4} 0 0 = 1", "reasons 2 3 0 0 = 2", "reasons 2 0 0 0 = 0",
            "addRuleAtom 2 0 3 3 0 true = 3", "isIdle 2 = true", "undo = 3", "addRuleAtom 2 1 1 1 0 true = 3",
            "firings 2 = 2", "rowCount 2 = 2", "reasons 2 {1 2} 0 0 = 0", "reasons 2 3 0 0 = 2");
    }

    private static void trees() {
        Script.sentence("section 5",
            "A query is a tree if nothing is left of its atoms when, as long as one of both can be done, "
            + "a variable that stands in only one atom is taken out of this atom", "isTree 1 = true",
            "addAtom 2 0 0 1 0 = 0", "addAtom 2 0 1 2 0 = 1", "addAtom 2 0 2 3 0 = 2", "isTree 2 = true",
            "addAtom 2 1 3 0 0 = 3", "isTree 2 = false", "addAtom 3 0 0 1 0 = 0", "addAtom 3 0 0 2 0 = 1",
            "addAtom 3 1 3 0 0 = 2", "isTree 3 = true", "addAtom 3 0 3 3 0 = 3", "isTree 3 = true",
            "addAtom 3 0 3 1 0 = 4", "isTree 3 = false");
        // In the triangle each variable of an atom stands in another one, but not both in the same.
        Script.sentence("section 5", ", or an atom all of whose variables that are left stand in another atom as well",
            "isTree 0 = false", "addAtom 0 0 0 1 0 = 3", "isTree 0 = false", "addTable 3 = 3", "addAtom 0 3 0 1 2 = 4",
            "isTree 0 = true", "addAtom 2 3 0 1 2 = 0", "addAtom 2 3 3 2 1 = 1", "isTree 2 = true",
            "addAtom 2 0 0 3 0 = 2", "isTree 2 = false", "addAtom 3 0 0 1 0 = 0", "addAtom 3 0 1 0 0 = 1",
            "addAtom 3 1 0 1 0 = 2", "isTree 3 = true");
        Script.sentence("section 5", "(also an atom without variables that are left) goes.", "addAtom 2 2 0 0 0 = 0",
            "isTree 2 = true", "addAtom 2 2 1 0 0 = 1", "isTree 2 = true", "addAtom 2 2 2 0 0 = 2",
            "addAtom 2 2 3 0 0 = 3", "isTree 2 = true", "addAtom 0 2 3 0 0 = 3", "isTree 0 = false",
            "addAtom 3 0 0 1 0 = 0", "addAtom 3 0 2 3 0 = 1", "isTree 3 = true");
        // A query of more atoms that is none, looked at just before, has nothing to do with it.
        Script.sentence("section 5", "(also an atom without variables that are left) goes.", "addTable 3 = 3",
            "addAtom 2 0 0 3 0 = 0", "addAtom 2 0 3 1 0 = 1", "addAtom 2 0 2 3 0 = 2", "addAtom 2 3 0 1 2 = 3",
            "isTree 2 = false", "isTree 0 = false", "isTree 1 = true", "isTree 0 = false");
        Script.sentence("section 5", "A single atom goes when it has no variables left.", "addAtom 2 2 3 0 0 = 0",
            "isTree 2 = true", "addAtom 3 0 1 3 0 = 0", "isTree 3 = true", "clearQuery 3 = 1", "addAtom 3 0 1 1 0 = 0",
            "isTree 3 = true", "addTable 3 = 3", "clearQuery 3 = 1", "addAtom 3 3 0 1 2 = 0", "isTree 3 = true");
        Script.sentence("section 5", "A query without atoms is a tree.)", "isTree {2 3} = true", "clearQuery 0 = 3",
            "isTree 0 = true", "undo = 0", "isTree 0 = false");
    }

    private static void treesInAnyOrder() {
        List<String> tree = List.of("0 0 1 0", "0 1 2 0", "0 2 0 0", "3 0 1 2", "0 2 3 0");
        List<String> none = List.of("0 0 1 0", "0 1 2 0", "0 2 0 0", "0 2 3 0", "3 1 2 3");
        for (List<Integer> places : permutations(5)) {
            Script script = Script.sentence("section 5", "(It does not matter in which order.", "addTable 3 = 3");
            for (int n = 0; n < 5; n++) {
                script.says("addAtom 2 " + tree.get(places.get(n)) + " = " + n, "addAtom 3 " + none.get(places.get(n))
                    + " = " + n);
            }
            script.says("isTree 2 = true", "isTree 3 = false");
        }
    }

    private static List<List<Integer>> permutations(int size) {
        List<List<Integer>> all = new ArrayList<>(List.of(new ArrayList<>()));
        for (int next = 0; next < size; next++) {
            List<List<Integer>> longer = new ArrayList<>();
            for (List<Integer> one : all) {
                for (int place = 0; place <= one.size(); place++) {
                    List<Integer> more = new ArrayList<>(one);
                    more.add(place, next);
                    longer.add(more);
                }
            }
            all = longer;
        }
        return all;
    }

    private static void covers() {
        // The triangle: a half for each of 6 rows; 2 halves for two of them would be 4.
        Script.sentence("section 5", "A cover in halves gives each atom of a query 0, 1 or 2 halves", "cover 0 = 3",
            "bound 0 = 216", "addAtom 0 2 0 0 0 = 3", "cover 0 = 3", "bound 0 = 36", "addAtom 2 1 0 1 0 = 0",
            "cover 2 = 2", "bound 2 = 256", "addAtom 2 0 0 1 0 = 1", "cover 2 = 2", "bound 2 = 36");
        Script.sentence("section 5",
            ", so that for each variable of the query the atoms in which it stands have 2 halves or more together.",
            "addAtom 2 2 0 0 0 = 0", "cover 2 = 2", "addAtom 2 2 1 0 0 = 1", "cover 2 = 4", "addAtom 2 0 0 1 0 = 2",
            "cover 2 = 2", "bound 2 = 1", "addAtom 2 0 1 2 0 = 3", "cover 2 = 4", "bound 2 = 36",
            "addAtom 2 0 2 0 0 = 4", "cover 2 = 3", "bound 2 = 36");
        Script.sentence("section 5", "Its size is the sum of the halves.", "addTable 3 = 3", "addAtom 2 3 0 1 2 = 0",
            "addAtom 2 3 1 2 3 = 1", "cover 2 = 4", "addAtom 2 3 2 3 0 = 2", "cover 2 = 3", "addAtom 2 3 3 0 1 = 3",
            "cover 2 = 3", "addAtom 3 2 0 0 0 = 0", "addAtom 3 2 1 0 0 = 1", "addAtom 3 2 2 0 0 = 2",
            "addAtom 3 2 3 0 0 = 3", "cover 3 = 8");
        Script.sentence("section 5", "The size of an atom is the number of the rows of its table that fit it: "
            + "those that have the same value in all columns of one variable.", "addTable 3 = 3", "addFact 3 1 1 2 = 1",
            "addFact 3 1 2 2 = 2", "addFact 3 3 3 3 = 3", "addFact 3 4 5 6 = 4", "addFact 3 6 6 6 = 5",
            "addFact 3 7 0 7 = 6", "addAtom 2 3 0 1 2 = 0", "bound 2 = 36", "clearQuery 2 = 1", "addAtom 2 3 0 0 1 = 0",
            "bound 2 = 9", "clearQuery 2 = 1", "addAtom 2 3 0 1 1 = 0", "bound 2 = 9", "clearQuery 2 = 1",
            "addAtom 2 3 2 1 2 = 0", "bound 2 = 9", "clearQuery 2 = 1", "addAtom 2 3 3 3 3 = 0", "bound 2 = 4",
            "addAtom 2 1 3 3 0 = 1", "bound 2 = 4", "addAtom 2 0 3 3 0 = 2", "bound 2 = 0", "clearQuery 2 = 3",
            "addAtom 2 1 3 3 0 = 0", "bound 2 = 9");
    }

    /** One atom for the variable 0 takes 2 halves, and three of two variables each take a half: no less will do. */
    private static void coversInAnyOrder() {
        List<String> atoms = List.of("2 0 0 0", "0 1 2 0", "0 2 3 0", "0 3 1 0", "1 2 3 0");
        for (List<Integer> places : permutations(5)) {
            Script script = Script.sentence("section 5", "A cover in halves gives each atom of a query 0, 1 or 2 halves",
                "addFact 2 7 0 0 = 2");
            for (int n = 0; n < 5; n++) {
                script.says("addAtom 2 " + atoms.get(places.get(n)) + " = " + n);
            }
            script.says("cover 2 = 5", "bound 2 = 864");
        }
    }

    private static void changes() {
        String words = "The calls that are listed under \"Changes\" below are changes";
        Script all = Script.sentence("section 6", words, "addTable 1 = 3", "addFact 3 1 0 0 = 1",
            "removeFact 2 3 0 0 = 0", "addAtom 2 0 0 1 0 = 0", "clearQuery 1 = 2", "setOrder 0 3210 = 123",
            "clearIdle 0 0 = 3", "addRule 3 0 0 0 = 2", "addRuleAtom 2 0 0 1 0 false = 1", "dropRule 0 = 2");
        for (int left = 9; left >= -1; left--) {
            all.says("undo = " + left);
        }
        // Also one that leaves all as it was: nothing idle, no atoms to clear, the same order.
        Script.sentence("section 6", words, "clearIdle 1 1 = 0", "undo = 0", "clearQuery 2 = 0", "undo = 0",
            "setOrder 0 123 = 123", "undo = 0", "undo = -1", "setOrder 1 123 = 123", "clearQuery 3 = 0",
            "clearQuery 3 = 0", "undo = 2", "undo = 1", "undo = 0", "undo = -1");
        Script.sentence("section 6", "if they throw no exception.", REFUSED).says("undo = -1",
            "setOrder 0 3210 = 123").says(REFUSED).says("undo = 0", "setOrder 0 123 = 123", "undo = 0", "undo = -1");
        Script reads = Script.sentence("section 6", words, "setOrder 0 3210 = 123");
        LeapTables same = new LeapTables();
        Script.answer(same, "setOrder", "0", "3210");
        for (String read : READS) {
            reads.says(read + " = " + Script.answer(same, read.split(" ")));
        }
        reads.says("undo = 0", "undo = -1");
    }

    private static void latestChanges() {
        String words = "Up to 10 of the latest changes can be undone, the latest first;";
        Script.sentence("section 6", words, "undo = -1", "addFact 2 0 0 0 = 2", "addFact 2 1 0 0 = 3",
            "addFact 2 2 0 0 = 4", "undo = 2", "isFact 2 2 0 0 = false", "isFact 2 1 0 0 = true", "undo = 1",
            "isFact 2 1 0 0 = false", "isFact 2 0 0 0 = true", "undo = 0", "factCount 2 = 1", "undo = -1",
            "factCount 2 = 1");
        for (int changes : new int[] {9, 10, 11, 12, 20, 21, 25, 59}) {
            int kept = Math.min(changes, 10);
            String part = changes > 10 ? "older ones are forgotten for good." : words;
            Script script = Script.sentence("section 6", part);
            for (int n = 0; n < changes; n++) {
                script.says("addFact 1 " + n / 8 + " " + n % 8 + " 0 = " + (n + 1));
            }
            for (int left = kept - 1; left >= 0; left--) {
                script.says("undo = " + left, "factCount 1 = " + (changes - kept + left));
            }
            script.says("undo = -1", "factCount 1 = " + (changes - kept), "undo = -1");
            // What was forgotten does not come back behind new changes.
            script.says("addFact 2 0 0 0 = 2", "undo = 0", "undo = -1", "factCount 1 = " + (changes - kept),
                "factCount 2 = 1");
        }
        // Ten changes more, with undos between: the room for changes goes round.
        Script round = Script.sentence("section 6", words);
        int facts = 0;
        int kept = 0;
        for (int n = 0; n < 59; n++) {
            round.says("addFact 1 " + n / 8 + " " + n % 8 + " 0 = " + (++facts));
            kept = Math.min(kept + 1, 10);
            for (int back = 0; back < n % 3 && n % 4 != 1; back++) {
                kept--;
                facts--;
                round.says("undo = " + kept, "factCount 1 = " + facts);
            }
        }
    }

    private static void undoing() {
        Script.sentence("section 6",
            "Undoing makes tables, facts, queries, orders and rules as they were ahead of the change.").undoes(
            CHANGES).says("addTable 3 = 3", "addFact 3 1 2 3 = 1", "addAtom 2 3 1 2 3 = 0", "addRule 3 0 1 1 = 2",
            "addRuleAtom 2 1 0 1 0 false = 1", "setOrder 2 3210 = 123").undoes("addFact 3 3 2 1", "removeFact 3 1 2 3",
            "clearQuery 2", "clearIdle 2 0", "setOrder 2 123", "dropRule 0", "dropRule 1", "dropRule 2",
            "addRuleAtom 2 0 0 1 0 true");
        // Tables, queries and rules that went come back without what they had.
        Script.sentence("section 6",
            "Undoing makes tables, facts, queries, orders and rules as they were ahead of the change.",
            "addTable 3 = 3", "addFact 3 1 2 3 = 1", "addRule 0 0 0 0 = 2", "addRuleAtom 2 0 0 1 0 false = 1",
            "undo = 3", "undo = 2", "addRule 2 0 0 0 = 2", "isIdle 2 = true", "addRuleAtom 2 2 0 0 0 false = 1",
            "undo = 3", "undo = 2", "undo = 1", "undo = 0", "addTable 1 = 3", "factCount 3 = 0", "rowCount 3 = 0",
            "columns 3 = 1");
        Script.sentence("section 6", "There is no redo.", "addFact 2 0 0 0 = 2", "addFact 2 1 0 0 = 3", "undo = 1",
            "undo = 0", "undo = -1", "factCount 2 = 1", "addFact 2 2 0 0 = 2", "undo = 0",
            "isFact 2 {0 1 2} 0 0 = false", "undo = -1", "isFact 2 {0 1 2} 0 0 = false");
    }

    private static void exceptionsInOrder() {
        String words = "If several exceptions apply to a call, the one that is listed first is thrown.";
        Script.sentence("section 6", words, "addFact 3 8 8 8 = INDEX", "removeFact 3 8 8 8 = INDEX",
            "removeFact 0 8 0 0 = ARGUMENT", "addAtom 4 0 9 9 9 = INDEX", "addAtom 0 3 9 9 9 = INDEX",
            "setOrder 4 9 = INDEX", "addRule 3 9 9 9 = INDEX", "addRuleAtom 2 0 9 9 9 true = INDEX",
            "addRuleAtom 0 3 9 9 9 true = INDEX", "addRuleAtom 0 1 0 9 0 true = ARGUMENT", "isFact 3 8 8 8 = INDEX",
            "reasons 3 8 8 8 = INDEX", "firstFrom 3 8 8 8 = INDEX", "firstFrom 0 7 8 0 = ARGUMENT",
            "firstFrom 2 7 1 0 = ARGUMENT", "lower 3 9 = INDEX", "lower 0 -1 = ARGUMENT", "seek 4 8 8 8 8 = INDEX",
            "seek 2 0 0 0 8 = ARGUMENT", "seek 0 7 7 8 7 = ARGUMENT", "groupSize 4 0 8 = INDEX",
            "groupSize 0 3 8 = INDEX", "groupSize 0 4 8 = INDEX");
        Script.sentence("section 6", words, "addTable 1 = 3", "addTable 1 = 4", "addTable {0 4} = ARGUMENT",
            "addTable 1 = STATE");
        Script.sentence("section 6", words, "addAtom 0 0 0 1 0 = 3", "addAtom 0 0 0 1 0 = 4",
            "addAtom 0 0 0 1 4 = ARGUMENT", "addAtom 0 3 0 1 0 = INDEX", "addAtom 0 0 0 1 0 = STATE");
        Script.sentence("section 6", words, "addRule 0 0 0 0 = 2", "addRule 0 0 0 0 = 3", "addRule 0 0 0 0 = 4",
            "addRule 3 0 0 0 = INDEX", "addRule 0 4 0 0 = ARGUMENT", "addRule 0 0 0 0 = STATE");
        Script.sentence("section 6", words, "addRuleAtom 0 0 0 1 0 false = 2", "addRuleAtom 0 0 0 1 0 false = 3",
            "addRuleAtom 0 0 0 1 0 false = 4", "addRuleAtom 0 3 0 1 0 false = INDEX",
            "addRuleAtom 0 0 0 1 1 false = ARGUMENT", "addRuleAtom 2 0 0 1 0 false = INDEX",
            "addRuleAtom 0 0 0 1 0 false = STATE", "addRuleAtom 0 1 0 1 0 true = STATE");
        Script full = Script.sentence("section 6", words);
        for (int n = 0; n < 60; n++) {
            full.says("addFact 1 " + n / 8 + " " + n % 8 + " 0 = " + (n + 1));
        }
        full.says("addFact 1 7 7 1 = ARGUMENT", "addFact 1 8 0 0 = ARGUMENT", "addFact 3 7 7 0 = INDEX",
            "addFact 1 7 7 0 = STATE", "addFact 1 0 0 0 = STATE");
    }

    private static void refusedCalls() {
        String words = "A call that throws an exception changes nothing.";
        Script.sentence("section 6", words).refuses(REFUSED);
        Script.sentence("section 6", words).refuses("columns 3 = INDEX", "factCount 3 = INDEX", "rowCount -1 = INDEX",
            "isFact 3 0 0 0 = INDEX", "isFact 0 8 0 0 = ARGUMENT", "reasons 3 0 0 0 = INDEX",
            "reasons 0 8 0 0 = ARGUMENT", "rowAt 0 6 0 = INDEX", "firstFrom 0 7 7 0 = NOSUCH",
            "firstFrom 0 0 0 1 = ARGUMENT", "values 0 2 = INDEX", "lower 0 0 = NOSUCH", "lower 0 9 = ARGUMENT",
            "atomCount 4 = INDEX", "answers 4 = INDEX", "answerAt 0 3 0 = INDEX", "answerAt 0 0 3 = INDEX",
            "seek 0 7 0 0 0 = NOSUCH", "seek 0 8 0 0 0 = ARGUMENT", "leaps 4 = INDEX", "groups 0 3 = INDEX",
            "groupSize 0 0 8 = ARGUMENT", "idleRows 0 3 = INDEX", "isTree 4 = INDEX", "cover 4 = INDEX",
            "bound 4 = INDEX", "isIdle 2 = INDEX", "layerOf 3 = INDEX", "firings 2 = INDEX");
        // Behind changes, so that there is something to undo, and where all is full.
        Script.sentence("section 6", words, "addTable 1 = 3", "addTable 3 = 4", "setOrder 0 3210 = 123",
            "addAtom 0 3 0 0 0 = 3", "addAtom 0 4 1 2 3 = 4", "addRule 3 0 0 0 = 2", "addRule 4 0 1 2 = 3",
            "addRule 3 1 0 0 = 4", "addRuleAtom 2 0 0 1 0 false = 1", "addRuleAtom 2 1 0 1 0 false = 2",
            "addRuleAtom 2 2 0 0 0 true = 3", "addRuleAtom 2 2 1 0 0 true = 4").refuses("addTable 1 = STATE",
            "addAtom 0 0 0 1 0 = STATE", "addRule 0 0 0 0 = STATE", "addRuleAtom 2 2 1 0 0 false = STATE",
            "addRuleAtom 3 4 0 0 0 true = STATE", "setOrder 0 3211 = ARGUMENT", "clearIdle 0 5 = INDEX",
            "dropRule 5 = INDEX", "removeFact 3 0 0 0 = NOSUCH", "clearQuery 4 = INDEX");
        Script full = Script.sentence("section 6", words, "addTable 3 = 3");
        for (int n = 0; n < 60; n++) {
            full.says("addFact 3 " + n / 8 + " " + n % 8 + " 0 = " + (n + 1));
        }
        full.refuses("addFact 3 7 7 7 = STATE", "addFact 3 0 0 0 = STATE", "addFact 3 0 0 8 = ARGUMENT");
    }

    private static void whatIsNotThere() {
        Script tables = Script.sentence("section 6", "A table");
        for (String call : Script.TABLE_CALLS) {
            tables.says(call.replace("#", "{-1 3 4 5 8 MAX MIN}") + " = INDEX");
        }
        tables.says("undo = -1", "addTable 1 = 3", "columns 3 = 1", "layerOf 3 = 0", "undo = 0", "columns 3 = INDEX",
            "layerOf 3 = INDEX", "rowCount 3 = INDEX", "addAtom 0 3 0 0 0 = INDEX");
        Script queries = Script.sentence("section 6", ", query");
        for (String call : Script.QUERY_CALLS) {
            queries.says(call.replace("#", "{-1 4 5 8 MAX MIN}") + " = INDEX");
        }
        queries.says("undo = -1");
        Script.sentence("section 6", ", atom", "clearIdle 0 {-1 3 4 5 MAX MIN} = INDEX",
            "idleRows 0 {-1 3 4 5 MAX MIN} = INDEX", "clearIdle 1 2 = INDEX", "idleRows 1 2 = INDEX",
            "clearIdle 2 0 = INDEX", "idleRows 2 0 = INDEX", "undo = -1", "addAtom 2 0 0 1 0 = 0", "idleRows 2 0 = 0",
            "clearIdle 2 0 = 0", "clearQuery 2 = 1", "idleRows 2 0 = INDEX", "clearIdle 2 0 = INDEX");
        Script.sentence("section 6", ", rule", "addRuleAtom {-1 2 3 4 5 MAX MIN} 0 0 1 0 false = INDEX",
            "dropRule {-1 2 3 4 5 MAX MIN} = INDEX", "isIdle {-1 2 3 4 5 MAX MIN} = INDEX",
            "firings {-1 2 3 4 5 MAX MIN} = INDEX", "undo = -1", "dropRule 1 = 1", "isIdle 1 = INDEX",
            "firings 1 = INDEX", "dropRule 1 = INDEX", "addRuleAtom 1 0 0 1 0 false = INDEX", "dropRule 0 = 0",
            "dropRule 0 = INDEX", "isIdle 0 = INDEX", "firings 0 = INDEX");
        Script.sentence("section 6",
            "or variable that is not there causes an IndexOutOfBoundsException (a variable is 0 to 3;",
            "addAtom 0 2 3 0 0 = 3", "groups 0 0 = 3", "groups 0 3 = 1", "groups 0 {-1 4 5 8 31 32 MAX MIN} = INDEX",
            "groupSize 0 0 0 = 1", "groupSize 0 3 0 = 0", "groupSize 0 {-1 4 5 8 31 32 MAX MIN} 0 = INDEX",
            "answerAt 1 0 {-1 4 5 8 31 32 MAX MIN} = INDEX", "answerAt 1 0 0 = 0", "answerAt 1 0 1 = 3");
        Script.sentence("section 6", "one that does not stand in the query is not there for it, where this is told).",
            "answerAt 1 0 {2 3} = INDEX", "groups 1 {2 3} = INDEX", "groupSize 1 {2 3} 0 = INDEX", "groups 1 0 = 3",
            "groups 1 1 = 1", "addAtom 1 2 3 0 0 = 2", "groups 1 3 = 1", "groups 1 2 = INDEX", "answerAt 1 0 3 = 3",
            "groups 2 {0 1 2 3} = INDEX", "groupSize 2 {0 1 2 3} 0 = INDEX", "answerAt 2 0 {0 1 2 3} = INDEX");
    }

    private static void whatIsNotAsTold() {
        Script rows = Script.sentence("section 6", "A row");
        for (String call : new String[] {"addFact", "removeFact", "isFact", "reasons", "firstFrom"}) {
            rows.says(call + " 0 {8 -1 MAX MIN} 1 0 = ARGUMENT", call + " 0 1 {8 -1 MAX MIN} 0 = ARGUMENT", call
                + " 0 0 1 {1 -1 MAX MIN} = ARGUMENT", call + " 2 {8 -1 MAX MIN} 0 0 = ARGUMENT", call
                + " 2 3 {1 -1} 0 = ARGUMENT", call + " 2 3 0 {1 -1} = ARGUMENT");
        }
        rows.says("undo = -1", "addTable 3 = 3");
        for (String call : new String[] {"addFact", "removeFact", "isFact", "reasons", "firstFrom"}) {
            rows.says(call + " 3 {8 -1} 0 0 = ARGUMENT", call + " 3 0 {8 -1} 0 = ARGUMENT", call
                + " 3 0 0 {8 -1 MAX MIN} = ARGUMENT");
        }
        Script.sentence("section 6", ", or variables of an atom, that are not as told in sections 1 and 2",
            "addAtom 2 0 0 1 {1 3 -1 MAX MIN} = ARGUMENT", "addAtom 2 2 0 {1 3 -1 MAX MIN} 0 = ARGUMENT",
            "addAtom 2 2 0 0 {1 3 -1} = ARGUMENT", "addRule 0 0 1 {1 3 -1} = ARGUMENT",
            "addRule 2 0 {1 3 -1} 0 = ARGUMENT", "addRuleAtom 0 0 0 1 {1 3 -1} {true false} = ARGUMENT",
            "addRuleAtom 0 2 0 {1 3 -1} 0 {true false} = ARGUMENT", "atomCount 2 = 0", "ruleCount = 2", "undo = -1");
        Script.sentence("section 6",
            "(a variable of an atom or a head that is not 0 to 3, too) cause an IllegalArgumentException.",
            "addAtom 2 0 {4 8 -1 MAX MIN} 0 0 = ARGUMENT", "addAtom 2 0 0 {4 8 -1 MAX MIN} 0 = ARGUMENT",
            "addRule 0 {4 8 -1 MAX MIN} 0 0 = ARGUMENT", "addRule 0 0 {4 8 -1 MAX MIN} 0 = ARGUMENT",
            "addRuleAtom 0 0 {4 8 -1 MAX MIN} 0 0 {true false} = ARGUMENT",
            "addRuleAtom 0 0 0 {4 8 -1 MAX MIN} 0 {true false} = ARGUMENT", "addTable 3 = 3",
            "addAtom 2 3 0 0 {4 8 -1 MAX MIN} = ARGUMENT", "addRule 3 0 0 {4 8 -1 MAX MIN} = ARGUMENT",
            "addRuleAtom 0 3 0 0 {4 8 -1 MAX MIN} false = ARGUMENT", "addAtom 2 3 3 3 3 = 0", "addRule 3 3 3 3 = 2",
            "addRuleAtom 0 3 3 3 3 false = 2");
    }
}
