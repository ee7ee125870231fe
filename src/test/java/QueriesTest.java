/** Promises 23 to 33: queries, their answers, leaps, trees and covers. */
public final class QueriesTest {
    public static void main(String[] args) {
        answers();
        answerAt();
        seek();
        orders();
        leaps();
        groups();
        idleRows();
        trees();
        covers();
        bounds();
        fullAnswers();
        Script.end();
    }

    private static void answers() {
        Script.promise("23: atomCount", "atomCount 0 = 3", "atomCount 1 = 2", "atomCount 2 = 0", "atomCount 3 = 0",
            "addAtom 3 0 0 1 0 = 0", "atomCount 3 = 1", "clearQuery 0 = 3", "atomCount 0 = 0", "atomCount 4 = INDEX",
            "atomCount -1 = INDEX");
        Script.promise("24: answers", "answers 0 = 3", "answers 1 = 3", "answers 2 = 0", "answers 3 = 0", "answers 4 = INDEX",
            "answers -1 = INDEX", "addFact 2 4 0 0 = 2", "answers 1 = 7", "addAtom 2 0 0 0 0 = 0", "answers 2 = 0",
            "addFact 0 6 6 0 = 7", "answers 2 = 1", "answers 0 = 4");
        // A query of atoms without a common variable: each with each.
        Script.promise("24: each with each", "addAtom 2 0 0 1 0 = 0", "addAtom 2 0 2 3 0 = 1", "answers 2 = 36",
            "addAtom 2 2 0 0 0 = 2", "answers 2 = 6", "addTable 3 = 3", "addAtom 2 3 0 0 0 = 3", "answers 2 = 0",
            "addFact 3 3 3 3 = 1", "answers 2 = 6", "addFact 3 3 3 4 = 2", "answers 2 = 6");
    }

    private static void answerAt() {
        Script.promise("25: answerAt", "answerAt 0 0 0 = 0", "answerAt 0 0 1 = 1", "answerAt 0 0 2 = 2", "answerAt 0 1 0 = 1",
            "answerAt 0 1 1 = 2", "answerAt 0 1 2 = 0", "answerAt 0 2 0 = 2", "answerAt 0 2 1 = 0", "answerAt 0 2 2 = 1",
            "answerAt 1 0 0 = 0", "answerAt 1 2 0 = 2", "answerAt 1 2 1 = 3");
        Script.promise("25: wrong inputs", "answerAt 4 0 0 = INDEX", "answerAt -1 0 0 = INDEX", "answerAt 0 3 0 = INDEX",
            "answerAt 0 -1 0 = INDEX", "answerAt 0 0 3 = INDEX", "answerAt 0 0 4 = INDEX", "answerAt 0 0 -1 = INDEX",
            "answerAt 0 0 32 = INDEX", "answerAt 1 0 2 = INDEX", "answerAt 2 0 0 = INDEX", "answerAt 0 2147483647 0 = INDEX",
            "answerAt 0 0 2147483647 = INDEX", "answerAt 0 -2147483648 -2147483648 = INDEX");
        Script.promise("25: variables that stand there", "addAtom 2 0 3 1 0 = 0", "answerAt 2 0 1 = 0", "answerAt 2 0 3 = 2",
            "answerAt 2 5 1 = 4", "answerAt 2 5 3 = 3", "answerAt 2 0 0 = INDEX", "answerAt 2 0 2 = INDEX");
    }

    private static void seek() {
        Script.promise("26: seek", "seek 0 0 0 0 0 = 0", "seek 0 0 1 2 7 = 0", "seek 0 0 1 3 0 = 1", "seek 0 1 2 0 0 = 1",
            "seek 0 1 2 1 0 = 2", "seek 0 2 0 1 7 = 2", "seek 0 2 0 2 0 = NOSUCH", "seek 0 7 7 7 7 = NOSUCH",
            "seek 1 0 3 7 7 = 0", "seek 1 0 4 0 0 = 1", "seek 1 2 3 7 7 = 2", "seek 1 2 4 0 0 = NOSUCH",
            "seek 2 0 0 0 0 = NOSUCH", "seek 3 0 0 0 0 = NOSUCH");
        Script.promise("26: wrong inputs", "seek 4 0 0 0 0 = INDEX", "seek -1 9 9 9 9 = INDEX", "seek 0 8 0 0 0 = ARGUMENT",
            "seek 0 0 8 0 0 = ARGUMENT", "seek 0 0 0 8 0 = ARGUMENT", "seek 0 0 0 0 8 = ARGUMENT", "seek 0 -1 0 0 0 = ARGUMENT",
            "seek 0 0 -1 0 0 = ARGUMENT", "seek 0 0 0 -1 0 = ARGUMENT", "seek 0 0 0 0 -1 = ARGUMENT",
            "seek 2 0 0 0 8 = ARGUMENT", "seek 1 0 0 2147483647 0 = ARGUMENT");
        // The order 3 1 of the variables that stand there: 3 is the first one of seek, 1 the second.
        Script.promise("26: in the order of the query", "addAtom 2 0 1 3 0 = 0", "setOrder 2 3210 = 123", "seek 2 0 0 7 7 = 0",
            "seek 2 0 2 0 0 = 0", "seek 2 0 3 0 0 = 1", "seek 2 2 1 0 0 = 3", "seek 2 4 3 7 7 = 5", "seek 2 4 4 0 0 = NOSUCH");
        Script.promise("26: four variables", "addAtom 2 0 0 1 0 = 0", "addAtom 2 0 2 3 0 = 1", "seek 2 0 1 0 1 = 0",
            "seek 2 0 1 0 3 = 2", "seek 2 0 1 3 5 = 6", "seek 2 3 4 3 4 = 35", "seek 2 3 4 3 5 = NOSUCH");
    }

    private static void orders() {
        Script.promise("7, 24: answers in another order", "setOrder 0 3210 = 123", "answers 0 = 3", "answerAt 0 0 2 = 0",
            "answerAt 0 0 0 = 1", "answerAt 0 1 2 = 1", "answerAt 0 1 0 = 2", "answerAt 0 2 2 = 2", "answerAt 0 2 0 = 0",
            "setOrder 0 1302 = 3210", "answerAt 0 0 1 = 0", "answerAt 0 0 0 = 2", "answerAt 0 2 1 = 2", "answerAt 0 2 2 = 0");
        Script.promise("7, 24: the second one decides", "addAtom 2 0 0 1 0 = 0", "setOrder 2 1023 = 123", "answerAt 2 0 1 = 0",
            "answerAt 2 0 0 = 2", "answerAt 2 1 1 = 1", "answerAt 2 2 1 = 2", "answerAt 2 2 0 = 0", "answerAt 2 3 1 = 2",
            "answerAt 2 3 0 = 1");
    }

    private static void leaps() {
        Script.promise("27: leaps", "leaps 0 = 41", "leaps 1 = 19", "leaps 2 = 0", "leaps 3 = 0", "leaps 4 = INDEX",
            "leaps -1 = INDEX");
        // One atom: each value is told once, and at the end there is none.
        Script.promise("27: one atom", "addAtom 2 2 3 0 0 = 0", "leaps 2 = 2", "addFact 2 7 0 0 = 2", "leaps 2 = 3",
            "removeFact 2 3 0 0 = 1", "leaps 2 = 2", "removeFact 2 7 0 0 = 0", "leaps 2 = 1", "addAtom 3 0 0 1 0 = 0",
            "leaps 3 = 15", "setOrder 3 3210 = 123", "leaps 3 = 17");
        // 3 and 2 3 5: told are 3, 3 (chosen), none. 2 3 5 and 3: told are 2, 3, 3 (chosen), none.
        Script.promise("27: two atoms", "addTable 1 = 3", "addFact 3 2 0 0 = 1", "addFact 3 3 0 0 = 2", "addFact 3 5 0 0 = 3",
            "addAtom 2 2 0 0 0 = 0", "addAtom 2 3 0 0 0 = 1", "leaps 2 = 3", "clearQuery 2 = 2", "addAtom 2 3 0 0 0 = 0",
            "addAtom 2 2 0 0 0 = 1", "leaps 2 = 4", "clearQuery 2 = 2", "addAtom 2 3 1 0 0 = 0", "addAtom 2 3 1 0 0 = 1",
            "leaps 2 = 7");
        // Both columns of one variable: only rows with the same value in them count, also before it is chosen.
        Script.promise("27: columns of one variable", "addAtom 2 1 2 2 0 = 0", "answers 2 = 3", "leaps 2 = 4", "addTable 3 = 3",
            "addFact 3 1 4 5 = 1", "addFact 3 2 6 6 = 2", "addFact 3 3 6 6 = 3", "addAtom 3 3 0 1 1 = 0", "leaps 3 = 7",
            "answers 3 = 2", "clearQuery 3 = 1", "addAtom 3 3 1 0 0 = 0", "leaps 3 = 5", "answers 3 = 2", "clearQuery 3 = 1",
            "addFact 3 5 0 5 = 4", "addFact 3 4 7 5 = 5", "addFact 3 5 2 2 = 6", "addAtom 3 3 0 1 0 = 0", "answers 3 = 1",
            "leaps 3 = 4", "setOrder 3 1023 = 123", "leaps 3 = 4", "clearQuery 3 = 1", "addFact 3 4 4 0 = 7",
            "addAtom 3 3 1 1 0 = 0", "answers 3 = 1", "leaps 3 = 4", "setOrder 3 123 = 1023", "leaps 3 = 4",
            "clearQuery 3 = 1", "addAtom 3 3 2 2 2 = 0", "leaps 3 = 1", "addFact 3 4 4 4 = 8", "leaps 3 = 2");
        // The value 7 is chosen, and the asking from 8 counts as well.
        Script.promise("27: above 7", "addFact 2 7 0 0 = 2", "removeFact 2 3 0 0 = 1", "addAtom 2 2 0 0 0 = 0", "leaps 2 = 2",
            "addAtom 2 2 0 0 0 = 1", "leaps 2 = 3", "addAtom 2 2 0 0 0 = 2", "leaps 2 = 4");
    }

    private static void groups() {
        Script.promise("28: groups", "groups 0 0 = 3", "groups 0 1 = 3", "groups 0 2 = 3", "groups 1 0 = 3", "groups 1 1 = 1",
            "removeFact 0 2 0 0 = 5", "groups 0 0 = 0", "groups 0 2 = 0");
        Script.promise("28: wrong inputs", "groups 4 0 = INDEX", "groups -1 0 = INDEX", "groups 0 3 = INDEX", "groups 0 4 = INDEX",
            "groups 0 -1 = INDEX", "groups 0 32 = INDEX", "groups 1 2 = INDEX", "groups 2 0 = INDEX");

        Script.promise("29: groupSize", "groupSize 0 0 0 = 1", "groupSize 0 0 3 = 0", "groupSize 1 1 3 = 3",
            "groupSize 1 1 2 = 0", "groupSize 1 0 7 = 0", "addAtom 2 0 3 1 0 = 0", "groupSize 2 3 0 = 2",
            "groupSize 2 3 1 = 1", "groupSize 2 1 2 = 2", "groupSize 2 1 4 = 1", "setOrder 2 1302 = 123",
            "groupSize 2 1 2 = 2", "groupSize 2 3 0 = 2");
        Script.promise("29: wrong inputs", "groupSize 4 0 0 = INDEX", "groupSize -1 9 9 = INDEX", "groupSize 0 3 0 = INDEX",
            "groupSize 0 3 8 = INDEX", "groupSize 0 -1 8 = INDEX", "groupSize 0 4 8 = INDEX", "groupSize 0 0 8 = ARGUMENT",
            "groupSize 0 0 -1 = ARGUMENT", "groupSize 2 0 0 = INDEX");
    }

    private static void idleRows() {
        Script.promise("30: idleRows", "idleRows 0 0 = 3", "idleRows 0 1 = 3", "idleRows 0 2 = 3", "idleRows 1 0 = 13",
            "idleRows 1 1 = 0", "addFact 2 7 0 0 = 2", "idleRows 1 1 = 1", "removeFact 0 2 0 0 = 5", "idleRows 0 0 = 5",
            "addAtom 2 0 1 1 0 = 0", "idleRows 2 0 = 5", "addFact 0 5 5 0 = 6", "idleRows 2 0 = 5");
        Script.promise("30: a row of many answers counts once", "addAtom 2 0 0 1 0 = 0", "addAtom 2 0 2 3 0 = 1",
            "idleRows 2 0 = 0", "idleRows 2 1 = 0", "addAtom 2 2 3 0 0 = 2", "idleRows 2 1 = 5", "idleRows 2 0 = 0",
            "idleRows 2 2 = 0");
        Script.promise("30: wrong inputs", "idleRows 4 0 = INDEX", "idleRows -1 0 = INDEX", "idleRows 0 3 = INDEX",
            "idleRows 0 -1 = INDEX", "idleRows 2 0 = INDEX", "idleRows 1 2147483647 = INDEX");
    }

    private static void trees() {
        Script.promise("31: isTree", "isTree 0 = false", "isTree 1 = true", "isTree 2 = true", "isTree 4 = INDEX",
            "isTree -1 = INDEX", "addAtom 2 0 0 1 0 = 0", "isTree 2 = true", "addAtom 2 0 1 2 0 = 1", "isTree 2 = true",
            "addAtom 2 0 2 3 0 = 2", "isTree 2 = true", "addAtom 2 0 3 0 0 = 3", "isTree 2 = false");
        // A table over the whole triangle makes it a tree; one over a part of the square does not.
        Script.promise("31: three columns", "addTable 3 = 3", "addAtom 0 3 2 1 0 = 3", "isTree 0 = true",
            "addAtom 0 0 3 0 0 = 4", "isTree 0 = true", "addAtom 2 0 0 1 0 = 0", "addAtom 2 0 1 2 0 = 1",
            "addAtom 2 0 2 3 0 = 2", "addAtom 2 0 3 0 0 = 3", "addAtom 2 3 0 1 2 = 4", "isTree 2 = false",
            "clearQuery 2 = 5", "addAtom 2 3 0 1 2 = 0", "addAtom 2 3 1 2 3 = 1", "isTree 2 = true", "addAtom 2 3 0 2 3 = 2",
            "isTree 2 = false", "addAtom 2 3 0 1 3 = 3", "isTree 2 = false", "clearQuery 2 = 4", "addAtom 2 3 0 1 2 = 0",
            "addAtom 2 0 0 1 0 = 1", "addAtom 2 0 1 2 0 = 2", "addAtom 2 0 2 0 0 = 3", "isTree 2 = true");
        Script.promise("31: the same atom twice", "addAtom 2 0 0 1 0 = 0", "addAtom 2 0 0 1 0 = 1", "isTree 2 = true",
            "addAtom 2 0 2 3 0 = 2", "isTree 2 = true", "addAtom 0 0 0 1 0 = 3", "isTree 0 = false", "addAtom 3 0 1 1 0 = 0",
            "isTree 3 = true");
    }

    private static void covers() {
        Script.promise("32: cover", "cover 0 = 3", "cover 1 = 2", "cover 2 = 0", "cover 3 = 0", "cover 4 = INDEX",
            "cover -1 = INDEX", "addAtom 2 2 1 0 0 = 0", "cover 2 = 2", "addAtom 2 2 1 0 0 = 1", "cover 2 = 2",
            "addAtom 2 2 0 0 0 = 2", "cover 2 = 4", "addAtom 2 2 2 0 0 = 3", "cover 2 = 6", "addAtom 2 2 3 0 0 = 4",
            "cover 2 = 8");
        Script.promise("32: more atoms", "addAtom 2 0 0 1 0 = 0", "addAtom 2 0 1 2 0 = 1", "cover 2 = 4", "addAtom 2 0 2 3 0 = 2",
            "cover 2 = 4", "addAtom 2 0 3 0 0 = 3", "cover 2 = 4", "addTable 3 = 3", "addAtom 0 3 0 1 2 = 3", "cover 0 = 2",
            "addAtom 0 3 1 2 3 = 4", "cover 0 = 4", "addAtom 3 3 0 1 2 = 0", "addAtom 3 3 1 2 3 = 1", "addAtom 3 3 2 3 0 = 2",
            "cover 3 = 3", "addAtom 3 3 3 0 1 = 3", "cover 3 = 3");
    }

    private static void bounds() {
        Script.promise("33: bound", "bound 0 = 216", "bound 1 = 256", "bound 2 = 1", "bound 3 = 1", "bound 4 = INDEX",
            "bound -1 = INDEX", "addAtom 2 0 0 1 0 = 0", "bound 2 = 36", "addAtom 2 0 2 3 0 = 1", "bound 2 = 1296",
            "addAtom 2 2 0 0 0 = 2", "bound 2 = 1296", "addAtom 2 2 1 0 0 = 3", "bound 2 = 36");
        // A table without rows makes it 0, wherever the least cover would else be.
        Script.promise("33: an empty table", "addTable 1 = 3", "addAtom 1 3 0 0 0 = 2", "bound 1 = 0", "cover 1 = 2",
            "addFact 3 5 0 0 = 1", "bound 1 = 1", "addFact 3 4 0 0 = 2", "bound 1 = 4");
        Script.promise("33: only rows that fit count", "addAtom 2 1 0 0 0 = 0", "bound 2 = 9", "addAtom 3 0 1 1 0 = 0",
            "bound 3 = 0", "addFact 0 7 7 0 = 7", "bound 3 = 1", "bound 0 = 343");
    }

    private static void fullAnswers() {
        Script full = Script.promise("24, 27, 33: 4096 answers", "addTable 3 = 3", "addRule 3 0 1 2 = 2");
        for (int value = 0; value < 8; value++) {
            full.says("addFact 2 " + value + " 0 0 = " + (value == 3 ? "STATE" : value < 3 ? value + 2 : value + 1));
        }
        full.says("addRuleAtom 2 2 0 0 0 false = 1", "addRuleAtom 2 2 1 0 0 false = 2", "addRuleAtom 2 2 2 0 0 false = 3",
            "addAtom 2 3 0 1 2 = 0", "answers 2 = 512", "leaps 2 = 657", "addAtom 2 3 1 2 3 = 1", "answers 2 = 4096",
            "setOrder 2 3201 = 123", "answerAt 2 4095 0 = 7", "answerAt 2 83 3 = 0", "answerAt 2 83 2 = 1",
            "answerAt 2 83 0 = 2", "answerAt 2 83 1 = 3", "answerAt 2 4096 0 = INDEX", "seek 2 7 7 7 7 = 4095",
            "seek 2 1 2 3 4 = 668", "groups 2 3 = 8", "groupSize 2 3 7 = 512", "idleRows 2 0 = 0", "cover 2 = 4",
            "bound 2 = 68719476736", "clearQuery 2 = 2", "addAtom 2 2 0 0 0 = 0", "addAtom 2 2 1 0 0 = 1",
            "addAtom 2 2 2 0 0 = 2", "addAtom 2 2 3 0 0 = 3", "answers 2 = 4096", "leaps 2 = 5265", "bound 2 = 16777216",
            "cover 2 = 8", "addAtom 2 3 3 1 0 = 4", "bound 2 = 16777216", "errors = 0", "clearQuery 0 = 3", "answers 0 = 0");
    }
}
