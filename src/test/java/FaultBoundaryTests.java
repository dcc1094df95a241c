/** A method for each part of the document's sentence about THE FAULT, told above the method. */
public final class FaultBoundaryTests extends Checks {
    /** 12 atoms: two things, and three predicates with two arguments. */
    private static final String FULL_OF_ATOMS = "Pab&Qab&Rab";

    public static void main(String[] args) {
        firstCharacterOfSeveral();
        textEndsTooEarly();
        textOf96EndsTooEarly();
        argumentMoreThanThePredicateHas();
        thirdArgument();
        characterInPlaceOfAnArgument();
        endInPlaceOfAnArgument();
        thirteenthClause();
        fifthLiteral();
        constantTooMany();
        constantTooManyInANewPredicate();
        constantAgain();
        predicateTooMany();
        predicateTooManyAtTheEnd();
        predicateTooManyBeforeAWrongCharacter();
        reckonedUpToThere();
        reckonedInOneTextAlone();
        end();
    }

    /** "the place (from 0) of the first character that can't stand where it does" */
    private static void firstCharacterOfSeveral() {
        dueFault("!", 0);
        dueFault("!!!", 0);
        dueFault("P!&Q!", 1);
        dueFault("P&Q!&", 3);
        dueFault("Pxyz&Pa&!", 3);
        dueFault("Px|Qx|Rx|Sx|Px&Pxy", 11);
        dueFault("P&Px&Q|Q|Q|Q|Q", 3);
        dueFault("P|Q|R|S|P&Px", 7);
        dueFault("P&".repeat(12) + "!", 23);
        dueFault("P&".repeat(11) + "!&P", 22);
        dueFault("P~", 1);
    }

    /** "the text's length if it ends too early" */
    private static void textEndsTooEarly() {
        dueFault("", 0);
        dueFault("-", 1);
        dueFault("-P", NONE);
        dueFault("P&", 2);
        dueFault("P&Q", NONE);
        dueFault("P|", 2);
        dueFault("P|Q", NONE);
        dueFault("P&-", 3);
        dueFault("P|-", 3);
        dueFault("P|-Q", NONE);
        dueFault("P&".repeat(11), 22);
        dueFault("P|Q|R|", 6);
    }

    /** The same, where no further character could be typed. */
    private static void textOf96EndsTooEarly() {
        String begun = "Pab|Pxy|Pyx|Pza&".repeat(5);
        dueFault(begun + "Pab|Pxy|-Pyx|-Pz", 96);
        dueFault(begun + "Pab|-Pxy|-Pyx|-P", 96);
        dueFault(begun + "-Pab|-Pxy|-Pyx|-", 96);
        dueFault(begun + "Pab|-Pxy|-Pyx&Q|", 96);
        dueFault(begun + "Pab|-Pxy|-Pyx&Q&", 96);
        dueFault(begun + "Pab|-Pxy|-Pyx|-Q", NONE);
    }

    /** "an argument more than the predicate has" */
    private static void argumentMoreThanThePredicateHas() {
        for (char argument : "abcxyz".toCharArray()) {
            dueFault("P&P" + argument, 3);
            dueFault("Px&Px" + argument, 5);
            dueFault("Pxy&Pxy" + argument, 7);
        }
        dueFault("P|P&Q", NONE);
        dueFault("Px|Px&Q", NONE);
        dueFault("Pxy|Pxy&Q", NONE);
        dueFault("P|Pxy&Q", 3);
        dueFault("Q&Px|Pxy", 7);
        // The constant would make more than 12 atoms as well: its place is the same.
        dueFault(FULL_OF_ATOMS + "&Pabc", 15);
    }

    /** "(a third one, too)" */
    private static void thirdArgument() {
        for (char argument : "abcxyz".toCharArray()) {
            dueFault("Pxy" + argument, 3);
            dueFault("Q|-Pab" + argument + "&R", 6);
        }
        dueFault("Pxyzzz", 3);
        dueFault("Pxy&Q", NONE);
    }

    /** "or a character that stands where an argument that is missing must be" */
    private static void characterInPlaceOfAnArgument() {
        for (String other : "& | - P Q ! d w A ~".split(" ")) {
            dueFault("Px&P" + other, 4);
            dueFault("Pxy&P" + other, 5);
            dueFault("Pxy&Px" + other, 6);
            dueFault("Pxy&Px" + other + "Q", 6);
        }
        dueFault("Pxy&Px&Pxy", 6);
        dueFault("Pxy&Pxy&Pxy", NONE);
        dueFault("Q|Pab&P|Q", 7);
        // The & or | would be one too many as well: its place is the same.
        dueFault("Px&" + "Px&".repeat(10) + "P&Px", 34);
        dueFault("Px|Px|Px|P|Px", 10);
    }

    /** Both: the text ends where an argument that is missing must be. */
    private static void endInPlaceOfAnArgument() {
        dueFault("Px&P", 4);
        dueFault("Px&Py", NONE);
        dueFault("Pxy&P", 5);
        dueFault("Pxy&Px", 6);
        dueFault("Pxy&Pxy", NONE);
    }

    /** "the & ... of a clause ... that is one too many (13th" */
    private static void thirteenthClause() {
        String twelve = "P&".repeat(11) + "P";
        dueFault(twelve, NONE);
        dueFault(twelve + "&", 23);
        dueFault(twelve + "&P", 23);
        dueFault(twelve + "&&", 23);
        dueFault(twelve + "|P&P", 25);
        dueFault("P&".repeat(11), 22);
        String longest = "P|Q|R|S&".repeat(11) + "P|Q|R|S";
        dueFault(longest, NONE);
        dueFault(longest + "&", 95);
        dueFault("Pxa&".repeat(11) + "-Pab", NONE);
        dueFault("Pxa&".repeat(11) + "-Pab&Q", 48);
    }

    /** "or | of a ... literal that is one too many (... 5th)" */
    private static void fifthLiteral() {
        dueFault("P|P|P|P", NONE);
        dueFault("P|P|P|P|", 7);
        dueFault("P|P|P|P|P", 7);
        dueFault("P|P|P|P||", 7);
        dueFault("P|P|P|P&P|P|P|P", NONE);
        dueFault("P|P|P|P&P|P|P|P|P", 15);
        dueFault("P|P|P&P|P|P|P|P", 13);
        dueFault("P&".repeat(11) + "P|P|P|P", NONE);
        dueFault("P&".repeat(11) + "P|P|P|P|P", 29);
        dueFault("P|Q|R|S&".repeat(11) + "P|Q|R|S|", 95);
        dueFault("-Pxa|Pxx|-Pab|Pbb|-Pbx", 17);
    }

    /** "a constant ... with which there would be more than 12 atoms" */
    private static void constantTooMany() {
        // Two things: 4 + 4 + 4 is 12, 4 + 4 + 4 + 1 is 13.
        dueFault("Pxy&Qxy&Rxy&Pab", NONE);
        dueFault("Pxy&Qxy&Rxy&S&Pax", NONE);
        dueFault("Pxy&Qxy&Rxy&S&Pab", 16);
        dueFault("Pxy&Qxy&Rxy&S&Pax|Pbx", 19);
        dueFault("Pax&Qxy&Rxy&S&Pxb", 16);
        // Three things: 9 + 3 and 9 + 1 + 1 + 1 and 3 + 3 + 3 + 3 are 12, 9 + 3 + 1 is 13.
        dueFault("Pab&Qx&Qc", NONE);
        dueFault("Pab&Qx&R&Qc", 10);
        dueFault("Pab&Qx&R&-Qc|S", 11);
        dueFault("Pab&Q&R&S&Pcx", NONE);
        dueFault("Pab&Qx&Rx&Pcx", 11);
        dueFault("Pab&Qx&Rx&Pxc", 12);
        dueFault("Pa&Pb&Qx&Rx&Sx&Pc", NONE);
        // One thing makes no more atoms than no constant does.
        dueFault("Pxy&Qxy&Rxy&Sxy&Pcc", NONE);
        dueFault("Pxy&Qxy&Rxy&Sxy&Pca", 18);
    }

    /** The same, in a predicate that is not reckoned yet: its arguments have not ended. */
    private static void constantTooManyInANewPredicate() {
        dueFault("Pab&Qxy&Rcx", 9);
        dueFault("Pab&Qxy&Rxc", 10);
        dueFault("Pab&Qxy&Rc", 9);
        dueFault("Pab&Qxy&-Rxc|S", 11);
        dueFault("Pab&Qc", NONE);
        dueFault("Pab&Qc&Rc", 9);
        dueFault("Pab&Qac", 7);
        dueFault("Pab&Qcx&R", 7);
    }

    /** A constant that stands there already makes no more atoms. */
    private static void constantAgain() {
        dueFault(FULL_OF_ATOMS + "&Pba|Qaa|Rbb", NONE);
        dueFault(FULL_OF_ATOMS + "&Pba|Qac|Rbb", 18);
        dueFault("Pab&Qc&Pcc|Pba|Qa", NONE);
    }

    /** "or predicate, ... its place is that of the character behind them" */
    private static void predicateTooMany() {
        dueFault(FULL_OF_ATOMS + "&Pxy", NONE);
        dueFault(FULL_OF_ATOMS + "&S&Pxy", 13);
        dueFault(FULL_OF_ATOMS + "|S|Pxy", 13);
        dueFault(FULL_OF_ATOMS + "&-S&Pxy", 14);
        dueFault(FULL_OF_ATOMS + "&Sx&Pxy", 14);
        dueFault(FULL_OF_ATOMS + "&Sa|Pxy", 14);
        dueFault(FULL_OF_ATOMS + "&Sxy&Pxy", 15);
        dueFault(FULL_OF_ATOMS + "&-Sba&Pxy", 16);
        dueFault("Pab&Pcc&Qx&R&S", 12);
        dueFault("Pab&Pcc&Q&R&S&Pcc", NONE);
        dueFault("Pab&Pcc&Q&R&Sx&Pcc", 14);
    }

    /** "or the text's length" */
    private static void predicateTooManyAtTheEnd() {
        dueFault(FULL_OF_ATOMS, NONE);
        dueFault(FULL_OF_ATOMS + "&S", 13);
        dueFault(FULL_OF_ATOMS + "&Sx", 14);
        dueFault(FULL_OF_ATOMS + "&Sxy", 15);
        dueFault("Pab&Qac", 7);
        String begun = FULL_OF_ATOMS + "|Pxy|Pyx&" + "Pab|Pxy|Pyx|Pza&".repeat(4);
        dueFault(begun + "-Pab&Pab&Sa", 95);
        dueFault(begun + "-Pab&Pab&Saa", 96);
        dueFault(begun + "-Pab&Pab&Pab", NONE);
    }

    /** Both: what stands behind the predicate could not stand there anyway. */
    private static void predicateTooManyBeforeAWrongCharacter() {
        dueFault(FULL_OF_ATOMS + "&Sxyz", 15);
        dueFault(FULL_OF_ATOMS + "&Sabc", 15);
        dueFault(FULL_OF_ATOMS + "&S!", 13);
        dueFault(FULL_OF_ATOMS + "&SP", 13);
        dueFault(FULL_OF_ATOMS + "&S-", 13);
        dueFault(FULL_OF_ATOMS + "&s", 12);
    }

    /** "(reckoned by the predicates and constants up to and with that" */
    private static void reckonedUpToThere() {
        // Later constants do not make an earlier predicate one too many, nor later predicates a constant.
        dueFault("Pxy&Qxy&Rxy&Sxy&Pac", 18);
        dueFault("Pxy&Qxy&Rxy&Sxy&Paa&Pb", 21);
        dueFault("Pab&Pxc&Qx&Rx", 13);
        dueFault("Pab&Pxc&Qx&R|S", 12);
        dueFault("Px&Qx&Rx&Sx&Pa&Pb&Pc", NONE);
        // A new predicate's own constants are reckoned with it, behind its arguments.
        dueFault("Pxy&Qc&Rab", 10);
        dueFault("Pxy&Qxy&Rab", NONE);
        dueFault("Pxy&Qxy&Rx&Sab", 14);
        dueFault("Pxy&Qxy&Rx&Sb", NONE);
        dueFault("Pxy&Qxy&Rx&Sa|Pbx", NONE);
        dueFault("Pxy&Qab", NONE);
        dueFault("Pxy&Qab&Rc", 9);
    }

    /** The same, on its other side: predicates and constants of texts before are not reckoned. */
    private static void reckonedInOneTextAlone() {
        String[] tooMany = {FULL_OF_ATOMS + "&Sab", "Pxy&Qab&Pcx", FULL_OF_ATOMS + "&Pxc"};
        for (String text : tooMany) {
            for (String next : new String[] {"Px", "P&Q", "Sc", FULL_OF_ATOMS, "Rab&Rxc&Sx"}) {
                HerbrandTables t = typed(text);
                due("read() of '" + text + "'", read(t), ILLEGAL_ARGUMENT);
                t.erase();
                type(t, next);
                due("read() of '" + next + "' after '" + text + "'", read(t), readNew(next));
                due("fault of '" + next + "' after '" + text + "'", t.fault(), NONE);
            }
        }
        HerbrandTables t = sentence(FULL_OF_ATOMS);
        type(t, "Sc");
        due("read() of 'Sc' after a sentence with 12 atoms", read(t), 1);
    }
}
