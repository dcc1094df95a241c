/**
 * A method for each sentence of the document's section 'Terms' that names a boundary, told above the
 * method; the sentence about the fault has FaultBoundaryTests, that about calls that throw has
 * PromiseBoundaryTests.
 */
public final class TermsBoundaryTests extends Checks {
    /** 92 characters: Pza makes it a sentence of 95, -Pza one of 96. */
    private static final String LONG = "Pab|Pxy|Pyx|Pza&".repeat(5) + "Pab|Pxy|Pyx|";

    public static void main(String[] args) {
        textOfUpTo96Characters();
        clausesWithAndBetween();
        literalsWithOrBetween();
        perhapsMinus();
        predicates();
        upToTwoArguments();
        constantsAndVariables();
        nothingBetweenArguments();
        notEmpty();
        noBlanks();
        sameNumberOfArguments();
        numberOfArgumentsIsOfOneSentence();
        atMostTwelveClauses();
        atMostFourLiterals();
        thingsAreConstants();
        thingsAreOfOneSentence();
        thingWithoutConstants();
        predicatesOfTheSentence();
        numbersOfAtoms();
        atMostTwelveAtoms();
        sameThingEverywhereInAClause();
        instanceIsASet();
        sameAtomBothTrueAndFalse();
        sameSetsOfOneClause();
        sameSetsOfSeveralClauses();
        eachInstanceHasALiteral();
        orderOfTables();
        forcedInAll();
        end();
    }

    /** "A TEXT of up to 96 characters is a SENTENCE" */
    private static void textOfUpTo96Characters() {
        due("a sentence of 95 characters", readNew(LONG + "Pza"), 5);
        HerbrandTables t = typed(LONG + "-Pza");
        due("a 97th character", t.type(row("b")), 0);
        due("a sentence of 96 characters", read(t), 9);
        dueFault(LONG + "-Pzd", 95);
    }

    /** "it is CLAUSES with & between two of them" */
    private static void clausesWithAndBetween() {
        due("one clause without &", sentence("Pa").clauses(), 1);
        due("two with one", sentence("Pa&Qb").clauses(), 2);
        dueFault("PaQb", 2);
        dueFault("&Pa", 0);
        dueFault("Pa&", 3);
        dueFault("Pa&&Qb", 3);
        dueFault("&", 0);
    }

    /** "each of them LITERALS with | between two of them" */
    private static void literalsWithOrBetween() {
        due("one literal without |", sentence("Pa").tables(), 1);
        due("two with one", sentence("Pa|Qa").tables(), 3);
        dueFault("|Pa", 0);
        dueFault("Pa|", 3);
        dueFault("Pa||Qb", 3);
        dueFault("Pa|&Qb", 3);
        dueFault("Pa&|Qb", 3);
        dueFault("|", 0);
    }

    /** "a literal is perhaps - , a PREDICATE" */
    private static void perhapsMinus() {
        due("without -", sentence("P").greatest(), 1);
        due("with -", sentence("-P").greatest(), 0);
        due("with - behind a | and behind an &", sentence("P|-Q&-R").tables(), 3);
        dueFault("--P", 1);
        dueFault("P-", 1);
        dueFault("P|--Q", 3);
        dueFault("-|P", 1);
        dueFault("-a", 1);
    }

    /** "a PREDICATE P, Q, R or S" */
    private static void predicates() {
        for (int p = 0; p < 4; p++) {
            due("predicate " + p, sentence("" + "PQRS".charAt(p)).atom(p, 0, 0), 0);
        }
        for (String other : "O T p s q A x 0 @".split(" ")) {
            dueFault(other, 0);
            dueFault("-" + other, 1);
        }
    }

    /** "and up to two ARGUMENTS" */
    private static void upToTwoArguments() {
        due("none", sentence("P|Qab").atoms(), 5);
        due("one", sentence("Px|Qab").atoms(), 6);
        due("two", sentence("Pxy|Qab").atoms(), 8);
        dueFault("Pxyz|Qab", 3);
        dueFault("Pxxx", 3);
    }

    /** "each a CONSTANT a, b or c or a VARIABLE x, y or z" */
    private static void constantsAndVariables() {
        for (String constant : "a b c".split(" ")) {
            due("constant " + constant, sentence("P" + constant + "&Qa&Qb").instancesOf(0), 1);
            due("second constant " + constant, sentence("P" + constant + constant + "&Qa").instancesOf(0), 1);
        }
        for (String variable : "x y z".split(" ")) {
            due("variable " + variable, sentence("P" + variable + "&Qa&Qb").instancesOf(0), 2);
            due("second variable " + variable, sentence("Pa" + variable + "&Qb").instancesOf(0), 2);
        }
        for (String other : "` d w { A X 1".split(" ")) {
            dueFault("P" + other, 1);
            dueFault("Pa" + other, 2);
        }
    }

    /** "one behind the other without anything between" */
    private static void nothingBetweenArguments() {
        dueFault("Pab", NONE);
        dueFault("Pa,b", 2);
        dueFault("P(ab)", 1);
        dueFault("Pa-b", 2);
        dueFault("Pa&b", 3);
        dueFault("P-a", 1);
    }

    /** "(So it is not empty" */
    private static void notEmpty() {
        dueFault("", 0);
        dueFault("P", NONE);
        HerbrandTables t = sentence("Pa&Pb");
        due("reading once more, without characters", read(t), ILLEGAL_ARGUMENT);
        due("its fault", t.fault(), 0);
        due("the sentence is there still", t.clauses(), 2);
    }

    /** "there are no blanks.)" */
    private static void noBlanks() {
        HerbrandTables t = typed("Pa");
        due("a blank", t.type(row(" ")), 0);
        due("a blank before &", t.type(row(" &Qb")), 0);
        due("a blank behind &", t.type(row("& Qb")), 0);
        due("none", t.type(row("&Qb")), 1);
        due("the text without blanks", read(t), 2);
    }

    /** "A predicate has the same number of arguments everywhere: as many as where it stands first." */
    private static void sameNumberOfArguments() {
        String[] arguments = {"", "x", "xy"};
        for (char predicate : "PQRS".toCharArray()) {
            for (int first = 0; first <= 2; first++) {
                for (int later = 0; later <= 2; later++) {
                    String begun = predicate + arguments[first] + "&" + predicate;
                    // The place behind those arguments that both have: one is missing there, or too many.
                    int fault = begun.length() + Math.min(first, later);
                    dueFault(begun + arguments[later], first == later ? NONE : fault);
                }
            }
        }
        dueFault("Pxy|Qx|R&-R|-Qy|-Pyx", NONE);
        dueFault("Pxy|Qx|R&-R|-Q|-Pyx", 14);
        dueFault("Px|Pxy", 5);
        dueFault("Px&Qx&Rx&-Pxy", 12);
    }

    /** The same sentence, on its other side: another sentence stands alone. */
    private static void numberOfArgumentsIsOfOneSentence() {
        HerbrandTables t = sentence("Pab");
        type(t, "Pa");
        due("one in the next sentence", read(t), 1);
        due("its atoms", t.atoms(), 1);
        type(t, "Pa|Q|");
        due("no sentence", read(t), ILLEGAL_ARGUMENT);
        t.erase();
        type(t, "P&Qab");
        due("none behind a text that was none", read(t), 2);
        due("its atoms too", t.atoms(), 5);
    }

    /** "There are at most 12 clauses" */
    private static void atMostTwelveClauses() {
        due("11 clauses", sentence("P&".repeat(10) + "P").clauses(), 11);
        due("12 clauses", sentence("P&".repeat(11) + "P").clauses(), 12);
        dueFault("P&".repeat(12) + "P", 23);
        due("12 clauses of several literals", sentence("P|Q|R&".repeat(11) + "P|Q|R").clauses(), 12);
        dueFault("P|Q|R&".repeat(12) + "P", 71);
        due("12 clauses of 4 literals", sentence("P|Q|R|S&".repeat(11) + "P|Q|R|S").clauses(), 12);
    }

    /** "of at most 4 literals." */
    private static void atMostFourLiterals() {
        due("3 literals", sentence("P|Q|R").tables(), 7);
        due("4 literals", sentence("P|Q|R|S").tables(), 15);
        dueFault("P|Q|R|S|P", 7);
        dueFault("P&Q|R|S|P", NONE);
        dueFault("P&Q|R|S|P|Q", 9);
        dueFault("P|P|P|P", NONE);
        dueFault("P|P|P|P|P", 7);
        dueFault("P&".repeat(11) + "P|Q|R|S", NONE);
        dueFault("P&".repeat(11) + "P|Q|R|S|P", 29);
    }

    /** "THE THINGS are the constants that stand in the sentence" */
    private static void thingsAreConstants() {
        dueThings("Px&Qa", 0, NONE, NONE);
        dueThings("Px&Qb", NONE, 0, NONE);
        dueThings("Px&Qc", NONE, NONE, 0);
        dueThings("Px&Qb&Qa", 0, 1, NONE);
        dueThings("Px&Qc|-Qa", 0, NONE, 1);
        dueThings("Px&Qcb", NONE, 0, 1);
        dueThings("Px&Qca&-Qxb", 0, 1, 2);
        dueThings("Pc|-Pc&Px", NONE, NONE, 0);
    }

    /** The same sentence, on its other side: constants of other texts are none. */
    private static void thingsAreOfOneSentence() {
        HerbrandTables t = sentence("Pa&Pb&Pc");
        type(t, "Pb");
        read(t);
        dueThings("Pb, after a sentence with more", t, NONE, 0, NONE);
        type(t, "Pa&Pc&");
        read(t);
        dueThings("Pb, after a text that is no sentence", t, NONE, 0, NONE);
        t.erase();
        type(t, "Px");
        read(t);
        dueThings("Px, after all these", t, 0, NONE, NONE);
    }

    /** "or a alone if none does." */
    private static void thingWithoutConstants() {
        dueThings("Px", 0, NONE, NONE);
        dueThings("Pz|-Py", 0, NONE, NONE);
        due("atoms of two arguments", sentence("Pxy").atoms(), 1);
        due("instances with x and y", sentence("Pxy|-Pyx|Qz").instances(), 0);
        due("x and y are a", sentence("Px&-Py").holds(), 0);
    }

    /** "AN ATOM is a predicate of the sentence with things as its arguments" */
    private static void predicatesOfTheSentence() {
        HerbrandTables t = sentence("Qx|S");
        due("P stands not there", t.atom(0, 0, 0), NONE);
        due("Q stands there", t.atom(1, 0, 0), 0);
        due("R stands not there", t.atom(2, 0, 0), NONE);
        due("S stands there, without arguments", t.atom(3, 0, 0), 1);
        due("atoms", t.atoms(), 2);
        type(t, "R");
        read(t);
        due("Q stands not in another sentence", t.atom(1, 0, 0), NONE);
        due("R does", t.atom(2, 0, 0), 0);
    }

    /**
     * "those of P, Q, R, S one after the other, of one predicate by the first argument, then by the
     * second one"
     */
    private static void numbersOfAtoms() {
        HerbrandTables four = sentence("Sb|Rab|Q|Px");
        int[][] inOrder = {
            {0, 0, 0}, {0, 1, 0}, {1, 0, 0}, {2, 0, 0}, {2, 0, 1}, {2, 1, 0}, {2, 1, 1}, {3, 0, 0}, {3, 1, 0}
        };
        for (int number = 0; number < inOrder.length; number++) {
            int[] atom = inOrder[number];
            due("atom " + number + " of Sb|Rab|Q|Px", four.atom(atom[0], atom[1], atom[2]), number);
        }
        HerbrandTables nine = sentence("Pca&Pxb");
        HerbrandTables twoOfThree = sentence("Pca&Pxx");
        for (int one = 0; one < 3; one++) {
            for (int two = 0; two < 3; two++) {
                due("atom " + one + " " + two + " of nine", nine.atom(0, one, two), 3 * one + two);
                int number = one == 1 || two == 1 ? NONE : one + two / 2;
                due("atom " + one + " " + two + " of a and c", twoOfThree.atom(0, one, two), number);
            }
        }
    }

    /** "There are at most 12." */
    private static void atMostTwelveAtoms() {
        due("one thing: 1 + 1 + 1 + 1", sentence("Pxy&Qxy&Rxy&Saa").atoms(), 4);
        due("two things: 4 + 4 + 2 + 1", sentence("Pab&Qxy&Rx&S").atoms(), 11);
        due("two things: 4 + 4 + 4", sentence("Pab&Qxy&Rxy").atoms(), 12);
        due("two things: 4 + 4 + 2 + 2", sentence("Pab&Qxy&Rx&Sx").atoms(), 12);
        dueFault("Pab&Qxy&Rxy&S", 13);
        dueFault("Pab&Qxy&Rxy&Sx", 14);
        dueFault("Pab&Qxy&Rxy&Sxy", 15);
        due("three things: 9 + 1 + 1", sentence("Pab&Pcx&Q&R").atoms(), 11);
        due("three things: 9 + 3", sentence("Pab&Pcx&Qx").atoms(), 12);
        due("three things: 9 + 1 + 1 + 1", sentence("Pab&Pcx&Q&R&S").atoms(), 12);
        due("three things: 3 + 3 + 3 + 3", sentence("Pa&Pb&Pc&Qx&Rx&Sx").atoms(), 12);
        dueFault("Pab&Pcx&Qx&R", 12);
        dueFault("Pab&Pcx&Q&Rx", 12);
        dueFault("Pab&Pcx&Qxy", 11);
        dueFault("Pa&Pb&Pc&Qx&Rx&Sxy", 18);
    }

    /** "by putting a thing for each of its variables (the same one everywhere in it)" */
    private static void sameThingEverywhereInAClause() {
        due("no variable", sentence("Pa|Pb").instances(), 1);
        due("x twice", sentence("Px|Qx&Qa&Qb").instancesOf(0), 2);
        due("x twice in one literal", sentence("Pxx&Qa&Qb").instancesOf(0), 2);
        due("x and y", sentence("Px|Qy&Qa&Qb").instancesOf(0), 4);
        due("x, y and z", sentence("Px|Qyz&Qab").instancesOf(0), 8);
        due("x, y and z for three things", sentence("Px|Qyz&Qab&Px|Pc").instancesOf(0), 27);
        due("y and z are as good as x", sentence("Py|Qz&Qa&Qb").instancesOf(0), 4);
        HerbrandTables apart = sentence("Px|Qa&-Px&Qb");
        due("x of another clause is another one: Pa|Qa, Pb|Qa, -Pa, -Pb, Qb", apart.instances(), 5);
        due("they hold in one table", apart.tables(), 1);
    }

    /** "it is a set of literals: atoms that are to be true, and atoms that are to be false." */
    private static void instanceIsASet() {
        due("in another order", sentence("P|-Q&-Q|P").instances(), 1);
        due("one of them twice", sentence("P|-Q&P|-Q|P|-Q").instances(), 1);
        due("one of them more", sentence("P|-Q&P|-Q|R").instances(), 2);
        due("true and false are two", sentence("P|-Q&-P|Q").instances(), 2);
        due("to be true, to be false", sentence("P&-P").instances(), 2);
    }

    /** "One that wants the same atom both true and false is left out." */
    private static void sameAtomBothTrueAndFalse() {
        due("P|-P", sentence("P|-P").instances(), 0);
        due("-P|P", sentence("-P|P").instances(), 0);
        due("the first and the fourth literal", sentence("P|Q|R|-P").instances(), 0);
        due("the same atom twice to be true is not that", sentence("P|P").instances(), 1);
        due("nor twice to be false", sentence("-P|-P").instances(), 1);
        due("nor two predicates", sentence("P|-Q").instances(), 1);
        due("nor two things", sentence("Pa|-Pb").instances(), 1);
        due("nor two clauses", sentence("P&-P").instances(), 2);
        due("for one of two things", sentence("Px|-Pa&Qb").instancesOf(0), 1);
        due("where x is y", sentence("Pxy|-Pyx&Qa&Qb").instancesOf(0), 2);
        due("in all tables it holds", sentence("Pa|-Pa&Qa").tables(), 2);
    }

    /** "Of instances that are the same sets ... there is one." */
    private static void sameSetsOfOneClause() {
        due("x and y the other way round", sentence("Px|Py&Qa&Qb").instancesOf(0), 3);
        due("not when they stand apart", sentence("Px|-Py&Qa&Qb").instancesOf(0), 2);
        due("nor when predicates differ", sentence("Px|Qy&Qa&Qb").instancesOf(0), 4);
    }

    /** "(of whatever clauses)" */
    private static void sameSetsOfSeveralClauses() {
        due("two clauses alike", sentence("P|Q&P|Q").instances(), 1);
        due("the first and the twelfth", sentence("P&" + "Q&".repeat(10) + "P").instances(), 2);
        due("with a constant and a variable", sentence("Px&Pa&Pb").instances(), 2);
        due("one more of another clause", sentence("Pa&Px|Qx&Pb|Qb").instances(), 3);
        due("each clause has them by itself", sentence("Px&Pa&Pb").instancesOf(2), 1);
    }

    /** "the sentence HOLDS in it when each instance has a literal that is as the table tells." */
    private static void eachInstanceHasALiteral() {
        due("one literal of four is enough", sentence("P|Q|-R|S").tables(), 15);
        due("no instance asks for nothing", sentence("P|Q|-R|-P&S|-S").tables(), 16);
        due("one instance alone is not as told", sentence("P&Q&-P|-Q").holds(), 0);
        due("each of two", sentence("P&Q").tables(), 1);
        due("each thing's", sentence("Px&Qa|Qb|Qc").tables(), 7);
    }

    /** "of two that one is less in which the first atom where they differ is false." */
    private static void orderOfTables() {
        HerbrandTables two = sentence("P|Q&-P|-Q");
        due("of P and Q, least is Q", two.least(), 2);
        due("and greatest is P", two.greatest(), 1);
        HerbrandTables twelve = sentence("Paa|Qc&-Paa|-Qc&-Pxb&-Pbx&-Pcx&-Pac&-Qa&-Qb");
        due("atoms 0 and 11: two tables", twelve.tables(), 2);
        due("least is the one with atom 11", twelve.least(), 2048);
        due("greatest is the one with atom 0", twelve.greatest(), 1);
        HerbrandTables more = sentence("P|Q&-P|-Q&P|R&P|S");
        due("the first atom alone counts: Q, R and S are less than P", more.least(), 14);
        due("P alone is greater than Q, R and S", sentence("P|Q&-P|-Q&P|R&P|S&-P|-R&-P|-S").greatest(), 1);
        HerbrandTables seven = sentence("Pab|R&-Pab|-R&-Pxx&-Pba&-Qx");
        due("of seven atoms, least is the one with the last", seven.least(), 64);
        due("greatest is the one with the second", seven.greatest(), 2);
    }

    /**
     * "An atom is FORCED when it is true in all tables in which the sentence holds, or false in all
     * of them, and there is one."
     */
    private static void forcedInAll() {
        HerbrandTables one = sentence("P&-Q");
        due("one table: true in it", forced(one, 0), 1);
        due("one table: false in it", forced(one, 1), 0);
        HerbrandTables two = sentence("P&Q|-Q");
        due("two tables: true in both", forced(two, 0), 1);
        due("two tables: in one of them", forced(two, 1), 2);
        HerbrandTables three = sentence("P|Q");
        due("three tables: false in one", forced(three, 0), 2);
        due("three tables: true in one", forced(sentence("-P|-Q"), 0), 2);
        HerbrandTables none = sentence("P&-P&Q");
        due("no table", forced(none, 0), NO_ELEMENT);
        due("no table, of an atom with a clause of its own", forced(none, 1), NO_ELEMENT);
    }

    private static void dueThings(String text, int a, int b, int c) {
        dueThings(text, sentence(text), a, b, c);
    }

    /** The numbers of Pa, Pb and Pc, which are the first atoms. */
    private static void dueThings(String what, HerbrandTables t, int a, int b, int c) {
        due("Pa of " + what, t.atom(0, 0, 0), a);
        due("Pb of " + what, t.atom(0, 1, 0), b);
        due("Pc of " + what, t.atom(0, 2, 0), c);
    }
}
