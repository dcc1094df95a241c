/**
 * A method for each sentence that names a boundary in the sections of the promises, in the section
 * 'What it is', and in the document's sentence about calls that throw; it is told above the method.
 */
public final class PromiseBoundaryTests extends Checks {
    /** 96 characters, 9 instances. */
    private static final String LONGEST = "Pab|Pxy|Pyx|Pza&".repeat(5) + "Pab|Pxy|Pyx|-Pza";
    /** 12 clauses of which each is needed for them not to hold together, 12 atoms. */
    private static final String CHAIN = "Pa&-Pa|Pb&-Pb|Pc&-Pc|Qa&-Qa|Qb&-Qb|Qc&-Qc|Ra&-Ra|Rb&-Rb|Rc&-Rc|Sa&-Sa|Sb&-Sb";
    private static final int EVERY_CLAUSE = 4095;
    /** For each number of atoms, from 1 on, a sentence without instances, and its last atom. */
    private static final String[][] HOLDS_ALWAYS = {
        {"P|-P", "P"},
        {"P|-P&Q|-Q", "Q"},
        {"P|-P&Q|-Q&R|-R", "R"},
        {"Pab|-Pab", "Pbb"},
        {"Pab|-Pab&Q|-Q", "Q"},
        {"Pab|-Pab&Qx|-Qx", "Qb"},
        {"Pab|-Pab&Qx|-Qx&R|-R", "R"},
        {"Pab|-Pab&Qab|-Qab", "Qbb"},
        {"Pab|-Pab&Qab|-Qab&R|-R", "R"},
        {"Pab|-Pab&Qab|-Qab&Rx|-Rx", "Rb"},
        {"Pab|-Pab&Qab|-Qab&Rx|-Rx&S|-S", "S"},
        {"Pab|-Pab&Qab|-Qab&Rab|-Rab", "Rbb"},
    };

    public static void main(String[] args) {
        usedFor512Calls();
        newObjectHasNoText();
        newObjectHasNoSentence();
        objectsStandAlone();
        typeLowestBitsFirst();
        typeUpToTheFirstZero();
        typeEightAtMost();
        typeCharactersFrom33To126();
        typeNoMoreThan96();
        typeRefusedChangesNothing();
        eraseAnswersHowManyThereWere();
        eraseLeavesTheRest();
        readInPlaceOfAnotherSentence();
        readLeavesNoCharacters();
        readAnswersInstances();
        readOfNoSentence();
        faultOfTheLatestRead();
        faultNoneWithoutRead();
        clausesNoneToTwelve();
        atomsNoneToTwelve();
        atomPredicates();
        atomArguments();
        atomArgumentsAsFarAsThereAreSome();
        atomWithoutSentence();
        instancesFromNoneOn();
        instancesOfClauses();
        instancesOfLeftOut();
        instancesOfSameSet();
        holdsInSomeTable();
        holdsWithoutSentence();
        tablesFromNoneToAll();
        tablesWithoutSentence();
        leastTable();
        leastThrows();
        greatestTable();
        greatestThrows();
        forcedOrNot();
        forcedThrows();
        withoutAClause();
        withoutThrows();
        coreOfClauses();
        coreWithOneThatIsNotNeeded();
        coreOfNone();
        coreThrows();
        exceptionNamedFirst();
        callThatThrowsChangesNothing();
        readThatThrowsChangesFaultAlone();
        end();
    }

    /** "An object is used for at most 512 calls after it has been made" */
    private static void usedFor512Calls() {
        HerbrandTables t = new HerbrandTables();
        for (int round = 0; round < 36; round++) {
            type(t, LONGEST);
            due("read in round " + round, read(t), 9);
            due("tables in round " + round, t.tables(), 9);
        }
        // 36 rounds of 14 calls, and 4 to type the next text.
        type(t, "Pab&Pbc&Qx|-Pxy&Qc|-Qb|Pcb&-Pcc");
        due("the 509th call: read", read(t), 13);
        due("the 510th: tables", t.tables(), 64);
        due("the 511th: least", t.least(), 3618);
        due("the 512th: greatest", t.greatest(), 3839);
    }

    /** Promise 1: "No text" */
    private static void newObjectHasNoText() {
        due("characters", new HerbrandTables().erase(), 0);
        HerbrandTables t = new HerbrandTables();
        due("read", read(t), ILLEGAL_ARGUMENT);
        due("fault", t.fault(), 0);
    }

    /** Promise 1: "no sentence." */
    private static void newObjectHasNoSentence() {
        dueNoSentence("a new object", new HerbrandTables());
        HerbrandTables typed = typed("Pa&Qb");
        dueNoSentence("a text that has not been read", typed);
        HerbrandTables refused = typed("Pa&Qb&");
        read(refused);
        dueNoSentence("a text that is no sentence", refused);
    }

    /** Promise 1, where another object has a text and a sentence. */
    private static void objectsStandAlone() {
        HerbrandTables first = sentence("Pa&Qb");
        type(first, "Pa|");
        HerbrandTables second = new HerbrandTables();
        dueNoSentence("a second object", second);
        due("characters of the second", second.erase(), 0);
        type(second, "R|S&-R");
        due("read by the second", read(second), 2);
        due("clauses of the first", first.clauses(), 2);
        due("atoms of the first", first.atoms(), 4);
        due("characters of the first", first.erase(), 3);
    }

    /** Promise 2: "the lowest 8 bits of row, the next 8, and so on" */
    private static void typeLowestBitsFirst() {
        HerbrandTables t = new HerbrandTables();
        due("P in the lowest bits, a in the next", t.type(0x6150L), 1);
        due("Pa is a sentence", read(t), 1);
        due("the other way round", t.type(0x5061L), 1);
        due("aP is none", read(t), ILLEGAL_ARGUMENT);
        due("because of a", t.fault(), 0);
        t.erase();
        due("eight characters", t.type(0x21_7C_51_7C_52_26_61_50L), 1);
        due("Pa&R|Q|!", read(t), ILLEGAL_ARGUMENT);
        due("the highest bits come last", t.fault(), 7);
    }

    /** Promise 2: "up to the first that are 0" */
    private static void typeUpToTheFirstZero() {
        for (int zero = 0; zero < 8; zero++) {
            HerbrandTables t = new HerbrandTables();
            due("0 at " + zero, t.type(rowWith(zero, 0)), 1);
            due("characters before the 0 at " + zero, t.erase(), zero);
            if (zero < 7) {
                due("0 at " + zero + ", a wrong one behind it", t.type(rowWith(zero, 0) | 255L << 8 * (zero + 1)), 1);
                due("characters before the 0 and the wrong one", t.erase(), zero);
            }
        }
        HerbrandTables t = new HerbrandTables();
        due("0 alone", t.type(0L), 1);
        due("characters of it", t.erase(), 0);
        due("the highest bit alone", t.type(Long.MIN_VALUE), 1);
        due("characters of that", t.erase(), 0);
    }

    /** Promise 2: "eight at most." */
    private static void typeEightAtMost() {
        HerbrandTables t = new HerbrandTables();
        due("seven", t.type(row("PPPPPPP")), 1);
        due("seven are there", t.erase(), 7);
        due("eight", t.type(row("PPPPPPPP")), 1);
        due("eight are there", t.erase(), 8);
    }

    /** Promise 2: "false ... when one is not 33 .. 126" */
    private static void typeCharactersFrom33To126() {
        for (int at = 0; at < 8; at++) {
            for (int wrong : new int[] {1, 31, 32, 127, 128, 160, 208, 255}) {
                HerbrandTables t = new HerbrandTables();
                due(wrong + " at " + at, t.type(rowWith(at, wrong)), 0);
                due("characters of " + wrong + " at " + at, t.erase(), 0);
            }
            for (int good : new int[] {33, 34, 125, 126}) {
                HerbrandTables t = new HerbrandTables();
                due(good + " at " + at, t.type(rowWith(at, good)), 1);
                due("characters of " + good + " at " + at, t.erase(), 8);
            }
        }
        due("all bits", new HerbrandTables().type(-1L), 0);
        due("the greatest row", new HerbrandTables().type(Long.MAX_VALUE), 0);
    }

    /** Promise 2: "or there would be more than 96." */
    private static void typeNoMoreThan96() {
        for (int more = 0; more <= 8; more++) {
            String added = "QQQQQQQQ".substring(0, more);
            HerbrandTables fits = typed("P".repeat(96 - more));
            due(more + " to make 96", fits.type(row(added)), 1);
            due("96 are there", fits.erase(), 96);
            if (more > 0) {
                HerbrandTables full = typed("P".repeat(97 - more));
                due(more + " to make 97", full.type(row(added)), 0);
                due("they are as many as before", full.erase(), 97 - more);
                due("there is room again", full.type(row(added)), 1);
            }
        }
        HerbrandTables cut = typed("P".repeat(95));
        due("those behind a 0 do not count", cut.type(0x50_50_50_00_50L), 1);
        due("nor does a row without characters, when it is full", cut.type(0x50_00L), 1);
        due("one more does", cut.type(0x50L), 0);
    }

    /** Promise 2: "false, changing nothing" */
    private static void typeRefusedChangesNothing() {
        HerbrandTables t = sentence("Qa&Qb");
        type(t, "P|");
        read(t);
        String before = answersOf(t);
        due("a wrong character behind good ones", t.type(row("|Qxx~ ")), 0);
        due("the fault", t.fault(), 2);
        dueText("the sentence", answersOf(t), before);
        type(t, "Q");
        due("the text is P|Q", read(t), 1);
        due("its tables", t.tables(), 3);
        type(t, LONGEST.substring(0, 95));
        due("two characters for one place", t.type(row("aa")), 0);
        due("the right one", t.type(row("a")), 1);
        due("one more", t.type(row("a")), 0);
        due("the text is as it was", read(t), 9);
    }

    /** Promise 3: "The text has no characters then. Answers how many it had." */
    private static void eraseAnswersHowManyThereWere() {
        HerbrandTables t = typed("P");
        due("one", t.erase(), 1);
        due("none then", t.erase(), 0);
        type(t, LONGEST);
        due("96", t.erase(), 96);
        due("none then, too", t.erase(), 0);
        type(t, "Q");
        due("what was erased is not read", read(t), 1);
        due("nor does it count", t.atoms(), 1);
        due("what was read is gone", t.erase(), 0);
    }

    /** Promise 3, on its other side: erase() is about the text alone. */
    private static void eraseLeavesTheRest() {
        HerbrandTables t = sentence("Pa&-Pb");
        String before = answersOf(t);
        type(t, "Pabc");
        read(t);
        t.erase();
        due("the fault", t.fault(), 3);
        dueText("the sentence", answersOf(t), before);
    }

    /** Promise 4: "The text becomes the sentence, in place of another one" */
    private static void readInPlaceOfAnotherSentence() {
        String[] texts = {CHAIN, "P", LONGEST, "-S&S", "Rx|-Rx", "Pab&Pxc&-Q|R&S|-S", "P|Q|R|S", "Pc&-Pb"};
        for (String one : texts) {
            for (String other : texts) {
                HerbrandTables t = sentence(one);
                answersOf(t);
                type(t, other);
                read(t);
                dueText("'" + other + "' in place of '" + one + "'", answersOf(t), answersOf(sentence(other)));
            }
        }
    }

    /** Promise 4: "it has no characters then." */
    private static void readLeavesNoCharacters() {
        HerbrandTables t = sentence(LONGEST);
        due("none behind a text of 96", t.erase(), 0);
        type(t, LONGEST);
        due("another of 96", read(t), 9);
        due("and none", read(t), ILLEGAL_ARGUMENT);
        due("its place", t.fault(), 0);
    }

    /** Promise 4: "Answers how many instances there are." */
    private static void readAnswersInstances() {
        due("none", readNew("P|-P"), 0);
        due("one", readNew("P"), 1);
        due("one of two clauses", readNew("P&P"), 1);
        due("27 of each of four clauses, and two", readNew("Pxy|Qz&-Pxy|Qz&Pxy|-Qz&-Pxy|-Qz&Pab&Qc"), 110);
    }

    /** Promise 4: "IllegalArgumentException: it is no sentence." */
    private static void readOfNoSentence() {
        due("no characters", readNew(""), ILLEGAL_ARGUMENT);
        due("one character", readNew("a"), ILLEGAL_ARGUMENT);
        due("96 characters", readNew("P".repeat(96)), ILLEGAL_ARGUMENT);
        due("13 clauses", readNew("P&".repeat(12) + "P"), ILLEGAL_ARGUMENT);
        due("12 clauses", readNew("P&".repeat(11) + "P"), 1);
        due("5 literals", readNew("P|P|P|P|P"), ILLEGAL_ARGUMENT);
        due("4 literals", readNew("P|P|P|P"), 1);
        due("13 atoms", readNew("Pab&Qc&R"), ILLEGAL_ARGUMENT);
        due("12 atoms", readNew("Pab&Qc"), 2);
    }

    /** Promise 5: "The fault that the latest read() found; NONE when it found none" */
    private static void faultOfTheLatestRead() {
        HerbrandTables t = typed("Pa|");
        read(t);
        due("one", t.fault(), 3);
        due("asked again", t.fault(), 3);
        type(t, "|");
        due("typing is no read", t.fault(), 3);
        read(t);
        due("the same place again", t.fault(), 3);
        t.erase();
        due("erasing is no read", t.fault(), 3);
        type(t, "&");
        read(t);
        due("another", t.fault(), 0);
        t.erase();
        type(t, "P");
        read(t);
        due("none", t.fault(), NONE);
        read(t);
        due("and one again, of a text without characters", t.fault(), 0);
        answersOf(t);
        due("asking is no read", t.fault(), 0);
    }

    /** Promise 5: "or there was no read()." */
    private static void faultNoneWithoutRead() {
        due("a new object", new HerbrandTables().fault(), NONE);
        HerbrandTables t = typed("!");
        due("a wrong text that was not read", t.fault(), NONE);
        t.erase();
        answersOf(t);
        due("a text that was erased", t.fault(), NONE);
    }

    /** Promise 6: "How many clauses the sentence has; 0 when there is none." */
    private static void clausesNoneToTwelve() {
        due("no sentence", new HerbrandTables().clauses(), 0);
        for (int count = 1; count <= 12; count++) {
            due(count + " clauses alike", sentence("P&".repeat(count - 1) + "P").clauses(), count);
        }
        due("one without instances", sentence("P|-P").clauses(), 1);
        HerbrandTables refused = typed("P&Q&");
        read(refused);
        due("no sentence, but a text", refused.clauses(), 0);
    }

    /** Promise 7: "How many atoms there are; 0 when there is no sentence." */
    private static void atomsNoneToTwelve() {
        due("no sentence", new HerbrandTables().atoms(), 0);
        for (int i = 0; i < HOLDS_ALWAYS.length; i++) {
            due("atoms of " + HOLDS_ALWAYS[i][0], sentence(HOLDS_ALWAYS[i][0]).atoms(), i + 1);
        }
        HerbrandTables refused = typed("Pab&");
        read(refused);
        due("no sentence, but a text", refused.atoms(), 0);
    }

    /** Promise 8: "predicate 0 .. 3 (P .. S)" */
    private static void atomPredicates() {
        HerbrandTables t = sentence("Px&Qx&Rx&Sx");
        for (int p = 0; p < 4; p++) {
            due("predicate " + p, t.atom(p, 0, 0), p);
        }
        for (int p : new int[] {-1, 4, 5, -4, 32, 256, -32, LEAST, GREATEST}) {
            due("predicate " + p, t.atom(p, 0, 0), NONE);
        }
    }

    /** Promise 8: "arguments 0 .. 2 (a .. c)"; "NONE when there is no such atom." */
    private static void atomArguments() {
        HerbrandTables t = sentence("Pab&Pcx&Qx");
        for (int i = 0; i < 3; i++) {
            due("second argument " + i, t.atom(0, 2, i), 6 + i);
            due("first argument " + i, t.atom(0, i, 2), 3 * i + 2);
            due("only argument " + i, t.atom(1, i, 0), 9 + i);
        }
        for (int i : new int[] {-1, 3, 4, -3, 31, 32, 33, 34, 64, -32, LEAST, GREATEST}) {
            due("second argument " + i, t.atom(0, 2, i), NONE);
            due("first argument " + i, t.atom(0, i, 2), NONE);
            due("only argument " + i, t.atom(1, i, 0), NONE);
        }
        HerbrandTables b = sentence("Pbx");
        due("b is the thing", b.atom(0, 1, 1), 0);
        due("a is none, as first argument", b.atom(0, 0, 1), NONE);
        due("c is none, as second argument", b.atom(0, 1, 2), NONE);
    }

    /** Promise 8: "which are looked at as far as the predicate has arguments." */
    private static void atomArgumentsAsFarAsThereAreSome() {
        HerbrandTables t = sentence("P|Qb|Rxc");
        for (int any : new int[] {-1, 0, 1, 2, 3, 32, LEAST, GREATEST}) {
            due("P with " + any + " as first argument", t.atom(0, any, 1), 0);
            due("P with " + any + " as second argument", t.atom(0, 1, any), 0);
            due("Qc with " + any + " as second argument", t.atom(1, 2, any), 2);
            due("Q with " + any + " as first argument", t.atom(1, any, 1), any == 1 || any == 2 ? any : NONE);
            due("Rc with " + any + " as second argument", t.atom(2, 2, any), any == 1 || any == 2 ? any + 4 : NONE);
        }
    }

    /** Promise 8: "NONE when there is no such atom", where there is none at all */
    private static void atomWithoutSentence() {
        HerbrandTables t = new HerbrandTables();
        due("Paa", t.atom(0, 0, 0), NONE);
        type(t, "Pa&");
        read(t);
        due("Pa of a text that is no sentence", t.atom(0, 0, 0), NONE);
    }

    /** Promise 9: "How many instances there are." */
    private static void instancesFromNoneOn() {
        due("no sentence", new HerbrandTables().instances(), 0);
        due("all are left out", sentence("Px|-Px&Qa|-Qa").instances(), 0);
        due("one", sentence("Pa|-Pb").instances(), 1);
        due("27 of one clause", sentence("Pxy|Qz&-Qa|Qa&-Qb|Qb&-Qc|Qc").instances(), 27);
        HerbrandTables t = sentence("Px&Qa&Qb");
        type(t, "P|");
        read(t);
        due("a text that is no sentence has none", t.instances(), 4);
    }

    /** Promise 10: "NONE when there is no such clause." */
    private static void instancesOfClauses() {
        HerbrandTables one = sentence("Px|Qab");
        due("the only clause", one.instancesOf(0), 2);
        HerbrandTables twelve = sentence("Px|Py&" + "Pa&".repeat(10) + "Px|Pb");
        due("the first of twelve", twelve.instancesOf(0), 3);
        due("the second", twelve.instancesOf(1), 1);
        due("the twelfth", twelve.instancesOf(11), 2);
        for (int k : new int[] {-1, 12, 13, 32, -12, LEAST, GREATEST}) {
            due("clause " + k + " of twelve", twelve.instancesOf(k), NONE);
        }
        for (int k : new int[] {-1, 1, 2, 11, 12, 32, LEAST, GREATEST}) {
            due("clause " + k + " of one", one.instancesOf(k), NONE);
        }
        due("without a sentence", new HerbrandTables().instancesOf(0), NONE);
        type(twelve, "R");
        read(twelve);
        due("clause 1 of a sentence that had more", twelve.instancesOf(1), NONE);
    }

    /** Promise 10: "(those left out not counted" */
    private static void instancesOfLeftOut() {
        due("all of them", sentence("Px|-Px&Qa&Qb").instancesOf(0), 0);
        due("one of two", sentence("Px|-Pa&Qa&Qb").instancesOf(0), 1);
        due("none", sentence("Px|-Qa&Qb").instancesOf(0), 2);
    }

    /** Promise 10: "the same set counted once)" */
    private static void instancesOfSameSet() {
        HerbrandTables t = sentence("Pa|Pb&Px|Py&Px|Pa&Px");
        due("one", t.instancesOf(0), 1);
        due("x and y, both ways", t.instancesOf(1), 3);
        due("x and a", t.instancesOf(2), 2);
        due("by itself, whatever other clauses have", t.instancesOf(3), 2);
        due("all clauses", t.instances(), 3);
    }

    /** Promise 11: "Whether the sentence holds in some table" */
    private static void holdsInSomeTable() {
        due("in all", sentence("P|-P").holds(), 1);
        due("in one", sentence("P").holds(), 1);
        due("in one of 4096", sentence("Pxy&Qx&Pab|Qc").holds(), 1);
        due("in none", sentence("P&-P").holds(), 0);
        due("in none of 4096", sentence("Pxy&Qx&Pab|Qc&-Pcc").holds(), 0);
    }

    /** Promise 11: "(without a sentence: true)." */
    private static void holdsWithoutSentence() {
        HerbrandTables t = new HerbrandTables();
        due("a new object", t.holds(), 1);
        type(t, "P&-P");
        due("a text that was not read", t.holds(), 1);
        type(t, "&");
        read(t);
        due("a text that is no sentence", t.holds(), 1);
        t.erase();
        type(t, "P&-P");
        read(t);
        due("a sentence that holds in none", t.holds(), 0);
        type(t, "P");
        read(t);
        due("another one", t.holds(), 1);
    }

    /** Promise 12: "In how many tables it holds." */
    private static void tablesFromNoneToAll() {
        for (int i = 0; i < HOLDS_ALWAYS.length; i++) {
            String all = HOLDS_ALWAYS[i][0];
            String last = HOLDS_ALWAYS[i][1];
            due("all of " + all, tables(sentence(all)), 2 << i);
            due("half of them, " + last, tables(sentence(all + "&" + last)), 1 << i);
            due("half of them, -" + last, tables(sentence(all + "&-" + last)), 1 << i);
            due("none, -" + last, tables(sentence(all + "&-" + last + "&" + last)), 0);
        }
        due("one of 4096", tables(sentence("Pxy&Qx&Pab|Qc")), 1);
    }

    /** Promise 12: "IllegalStateException: there is no sentence." */
    private static void tablesWithoutSentence() {
        HerbrandTables t = new HerbrandTables();
        due("a new object", tables(t), ILLEGAL_STATE);
        type(t, "P&");
        read(t);
        due("a text that is no sentence", tables(t), ILLEGAL_STATE);
        type(t, "Q");
        read(t);
        due("a sentence", tables(t), 1);
    }

    /** Promise 13: "The least table in which it holds, as the sum of 2^atom for each atom that is true." */
    private static void leastTable() {
        for (int i = 0; i < HOLDS_ALWAYS.length; i++) {
            String all = HOLDS_ALWAYS[i][0];
            String last = HOLDS_ALWAYS[i][1];
            due("least of " + all, least(sentence(all)), 0);
            due("with " + last, least(sentence(all + "&" + last)), 1 << i);
        }
        due("all are true", least(sentence("Pxy&Qx&Pab|Qc")), 4095);
    }

    /**
     * Promise 13: "IllegalStateException: there is no sentence; NoSuchElementException: it holds in
     * none."
     */
    private static void leastThrows() {
        due("no sentence", least(new HerbrandTables()), ILLEGAL_STATE);
        due("in none", least(sentence("P&-P")), NO_ELEMENT);
        due("in none of 4096", least(sentence(CHAIN)), NO_ELEMENT);
        due("in one", least(sentence("-P")), 0);
    }

    /** Promise 14: "The greatest one, likewise." */
    private static void greatestTable() {
        for (int i = 0; i < HOLDS_ALWAYS.length; i++) {
            String all = HOLDS_ALWAYS[i][0];
            String last = HOLDS_ALWAYS[i][1];
            due("greatest of " + all, greatest(sentence(all)), (2 << i) - 1);
            due("with -" + last, greatest(sentence(all + "&-" + last)), (1 << i) - 1);
        }
        due("all are false", greatest(sentence("-Pxy&-Qx&-Pab|-Qc")), 0);
    }

    /**
     * Promise 14: "IllegalStateException: there is no sentence; NoSuchElementException: it holds in
     * none."
     */
    private static void greatestThrows() {
        due("no sentence", greatest(new HerbrandTables()), ILLEGAL_STATE);
        due("in none", greatest(sentence("P&-P")), NO_ELEMENT);
        due("in none of 4096", greatest(sentence(CHAIN)), NO_ELEMENT);
        due("in one", greatest(sentence("-P")), 0);
    }

    /** Promise 15: "1 when the atom is forced to be true, 0 when to be false, 2 when it is not forced" */
    private static void forcedOrNot() {
        for (int i = 0; i < HOLDS_ALWAYS.length; i++) {
            String all = HOLDS_ALWAYS[i][0];
            String last = HOLDS_ALWAYS[i][1];
            due("the first of " + all, forced(sentence(all), 0), 2);
            due("the last of " + all, forced(sentence(all), i), 2);
            due(last + " to be true", forced(sentence(all + "&" + last), i), 1);
            due(last + " to be false", forced(sentence(all + "&-" + last), i), 0);
            if (i > 0) {
                due("the first one then", forced(sentence(all + "&-" + last), 0), 2);
            }
        }
        String[] twelve = {"Paa", "Pab", "Pba", "Pbb", "Qaa", "Qab", "Qba", "Qbb", "Raa", "Rab", "Rba", "Rbb"};
        for (int atom = 0; atom < twelve.length; atom++) {
            HerbrandTables t = sentence("Pab|-Pab&Qab|-Qab&Rab|-Rab&-" + twelve[atom]);
            for (int other = 0; other < twelve.length; other++) {
                due(twelve[other] + " with -" + twelve[atom], forced(t, other), other == atom ? 0 : 2);
            }
        }
    }

    /**
     * Promise 15: "IllegalStateException: there is no sentence; IndexOutOfBoundsException: there is
     * no such atom; NoSuchElementException: it holds in none."
     */
    private static void forcedThrows() {
        due("no sentence", forced(new HerbrandTables(), 0), ILLEGAL_STATE);
        HerbrandTables one = sentence("P");
        HerbrandTables twelve = sentence("Pab&Qc");
        due("atom 0 of one", forced(one, 0), 1);
        due("atom 11 of twelve", forced(twelve, 11), 1);
        for (int atom : new int[] {-1, 12, 13, 32, 4096, -32, LEAST, GREATEST}) {
            due("atom " + atom + " of one", forced(one, atom), OUT_OF_BOUNDS);
            due("atom " + atom + " of twelve", forced(twelve, atom), OUT_OF_BOUNDS);
        }
        due("atom 1 of one", forced(one, 1), OUT_OF_BOUNDS);
        due("in none", forced(sentence("P&-P"), 0), NO_ELEMENT);
        due("in none, the last of twelve", forced(sentence(CHAIN), 11), NO_ELEMENT);
    }

    /** Promise 16: "Whether without clause k the sentence would hold in some table (with the same atoms)." */
    private static void withoutAClause() {
        HerbrandTables chain = sentence(CHAIN);
        for (int k = 0; k < 12; k++) {
            due("each of twelve is needed, " + k, without(chain, k), 1);
        }
        HerbrandTables twice = sentence("P&-P&Q&P");
        due("a clause that stands there twice", without(twice, 0), 0);
        due("the one against both", without(twice, 1), 1);
        due("one that has nothing to do with it", without(twice, 2), 0);
        due("the other one of the two", without(twice, 3), 0);
        due("the only clause", without(sentence("P"), 0), 1);
        due("a clause of a sentence that holds", without(sentence("P&Q"), 1), 1);
        HerbrandTables same = sentence("Pb&-Px|-Qa&Qx&Pa");
        due("Pb brings the thing b, and is not needed", without(same, 0), 0);
        due("the atoms are the same after it", same.atoms(), 4);
    }

    /**
     * Promise 16: "IllegalStateException: there is no sentence; IndexOutOfBoundsException: there is
     * no such clause."
     */
    private static void withoutThrows() {
        due("no sentence", without(new HerbrandTables(), 0), ILLEGAL_STATE);
        HerbrandTables one = sentence("P");
        HerbrandTables twelve = sentence(CHAIN);
        due("clause 0 of one", without(one, 0), 1);
        due("clause 11 of twelve", without(twelve, 11), 1);
        due("clause 1 of one", without(one, 1), OUT_OF_BOUNDS);
        for (int k : new int[] {-1, 12, 13, 31, 32, 33, 64, -32, LEAST, GREATEST}) {
            due("clause " + k + " of one", without(one, k), OUT_OF_BOUNDS);
            due("clause " + k + " of twelve", without(twelve, k), OUT_OF_BOUNDS);
        }
    }

    /**
     * Promise 17: "Whether clauses, as the sum of 2^k, cannot hold together, but could if any one of
     * them were left out."
     */
    private static void coreOfClauses() {
        HerbrandTables chain = sentence(CHAIN);
        due("all of twelve", core(chain, EVERY_CLAUSE), 1);
        for (int k = 0; k < 12; k++) {
            due("all but " + k, core(chain, EVERY_CLAUSE - (1 << k)), 0);
            due(k + " alone", core(chain, 1 << k), 0);
        }
        HerbrandTables several = sentence("P&-P&Q&-Q&P|Q");
        due("P and -P", core(several, 3), 1);
        due("Q and -Q", core(several, 12), 1);
        due("-P, -Q and P|Q", core(several, 26), 1);
        due("P and Q", core(several, 5), 0);
        due("P, -P and Q, which is not needed", core(several, 7), 0);
        due("P, -P, Q and -Q: two are not needed", core(several, 15), 0);
        due("all", core(several, 31), 0);
        HerbrandTables holds = sentence("P&Q");
        due("clauses that hold", core(holds, 3), 0);
        HerbrandTables things = sentence("Px|Qx&-Pa&-Qb&-Qa&-Pb");
        due("for a", core(things, 1 + 2 + 8), 1);
        due("for b", core(things, 1 + 4 + 16), 1);
        due("for neither", core(things, 1 + 2 + 4), 0);
    }

    /** The same sentence, where any one but one could not be left out, wherever that one stands. */
    private static void coreWithOneThatIsNotNeeded() {
        String[] needed = CHAIN.replace("&-Sa|Sb&-Sb", "&-Sa").split("&");
        for (int at = 0; at <= needed.length; at++) {
            StringBuilder text = new StringBuilder();
            for (int k = 0; k <= needed.length; k++) {
                String clause = k == at ? "Sc" : needed[k < at ? k : k - 1];
                text.append(k == 0 ? "" : "&").append(clause);
            }
            HerbrandTables t = sentence(text.toString());
            due("with Sc, which is clause " + at, core(t, EVERY_CLAUSE), 0);
            due("without Sc, which is clause " + at, core(t, EVERY_CLAUSE - (1 << at)), 1);
        }
    }

    /** The same sentence, of no clauses: they hold together. */
    private static void coreOfNone() {
        due("of one clause", core(sentence("P"), 0), 0);
        due("of a sentence that holds in none", core(sentence("P&-P"), 0), 0);
    }

    /**
     * Promise 17: "IllegalStateException: there is no sentence; IndexOutOfBoundsException: the sum is
     * below 0, or has another clause."
     */
    private static void coreThrows() {
        due("no sentence", core(new HerbrandTables(), 0), ILLEGAL_STATE);
        HerbrandTables one = sentence("P");
        HerbrandTables twelve = sentence(CHAIN);
        due("1 of one", core(one, 1), 0);
        due("2 of one", core(one, 2), OUT_OF_BOUNDS);
        due("3 of one", core(one, 3), OUT_OF_BOUNDS);
        due("4095 of twelve", core(twelve, EVERY_CLAUSE), 1);
        for (int sum : new int[] {-1, 4096, 4097, 8191, 1 << 16, 1 << 30, -4095, LEAST, LEAST + 1, GREATEST}) {
            due(sum + " of one", core(one, sum), OUT_OF_BOUNDS);
            due(sum + " of twelve", core(twelve, sum), OUT_OF_BOUNDS);
        }
    }

    /**
     * "Calls that name exceptions throw them as their comments say, the one named first when several
     * would do"
     */
    private static void exceptionNamedFirst() {
        HerbrandTables none = new HerbrandTables();
        for (int wrong : new int[] {-1, 12, 4096, LEAST, GREATEST}) {
            due("forced " + wrong + " without a sentence", forced(none, wrong), ILLEGAL_STATE);
            due("without " + wrong + " without a sentence", without(none, wrong), ILLEGAL_STATE);
            due("core " + wrong + " without a sentence", core(none, wrong), ILLEGAL_STATE);
        }
        HerbrandTables inNone = sentence("P&-P");
        for (int wrong : new int[] {-1, 1, 12, LEAST, GREATEST}) {
            due("forced " + wrong + ", and it holds in none", forced(inNone, wrong), OUT_OF_BOUNDS);
        }
        due("forced 0, and it holds in none", forced(inNone, 0), NO_ELEMENT);
        due("without 2, and it holds in none", without(inNone, 2), OUT_OF_BOUNDS);
        due("core 4, and it holds in none", core(inNone, 4), OUT_OF_BOUNDS);
    }

    /** "a call that throws changes nothing" */
    private static void callThatThrowsChangesNothing() {
        for (String text : new String[] {"", "P&Qa|Qb", "P&-P&Qa|Qb"}) {
            HerbrandTables asked = begun(text);
            HerbrandTables left = begun(text);
            for (int wrong : new int[] {-1, 4096, LEAST, GREATEST}) {
                due("forced " + wrong + " throws", forced(asked, wrong) < ILLEGAL_ARGUMENT, 1);
                due("without " + wrong + " throws", without(asked, wrong) < ILLEGAL_ARGUMENT, 1);
                due("core " + wrong + " throws", core(asked, wrong) < ILLEGAL_ARGUMENT, 1);
            }
            boolean throwsMore = !text.equals("P&Qa|Qb");
            due("tables throws", tables(asked) < ILLEGAL_ARGUMENT, text.isEmpty() ? 1 : 0);
            due("least throws", least(asked) < ILLEGAL_ARGUMENT, throwsMore ? 1 : 0);
            due("greatest throws", greatest(asked) < ILLEGAL_ARGUMENT, throwsMore ? 1 : 0);
            due("forced throws", forced(asked, 0) < ILLEGAL_ARGUMENT, throwsMore ? 1 : 0);
            due("the fault is as before", asked.fault(), 2);
            dueText("the sentence is as before, '" + text + "'", answersOf(asked), answersOf(left));
            type(asked, "b");
            due("the text is as before", read(asked), 3);
            due("and its tables", tables(asked), 20);
        }
    }

    /** "but for what fault() tells." */
    private static void readThatThrowsChangesFaultAlone() {
        for (String text : new String[] {"", "P&Qa|Qb", "P&-P&Qa|Qb"}) {
            HerbrandTables asked = begun(text);
            HerbrandTables left = begun(text);
            type(asked, "|");
            due("no sentence", read(asked), ILLEGAL_ARGUMENT);
            due("the fault is a new one", asked.fault(), 8);
            dueText("the sentence is as before, '" + text + "'", answersOf(asked), answersOf(left));
            due("the same text again", read(asked), ILLEGAL_ARGUMENT);
            due("the same fault", asked.fault(), 8);
            due("the text is as before", asked.erase(), 8);
        }
        HerbrandTables t = typed("Px|");
        due("a text that ends too early", read(t), ILLEGAL_ARGUMENT);
        type(t, "Qx&Qa&Qb");
        due("it can be typed on", read(t), 4);
        due("and has no fault then", t.fault(), NONE);
    }

    /** An object with that sentence, if any, the fault 2, and the text Pa|Qx&R. */
    private static HerbrandTables begun(String text) {
        HerbrandTables t = text.isEmpty() ? new HerbrandTables() : sentence(text);
        type(t, "Pa!");
        due("Pa! is no sentence", read(t), ILLEGAL_ARGUMENT);
        t.erase();
        type(t, "Pa|Qx&R");
        return t;
    }

    private static void dueNoSentence(String what, HerbrandTables t) {
        due("clauses of " + what, t.clauses(), 0);
        due("atoms of " + what, t.atoms(), 0);
        due("atom of " + what, t.atom(0, 0, 0), NONE);
        due("instances of " + what, t.instances(), 0);
        due("instances of clause 0 of " + what, t.instancesOf(0), NONE);
        due("holds, " + what, t.holds(), 1);
        due("tables of " + what, tables(t), ILLEGAL_STATE);
        due("least of " + what, least(t), ILLEGAL_STATE);
        due("greatest of " + what, greatest(t), ILLEGAL_STATE);
        due("forced of " + what, forced(t, 0), ILLEGAL_STATE);
        due("without of " + what, without(t, 0), ILLEGAL_STATE);
        due("core of " + what, core(t, 0), ILLEGAL_STATE);
    }

    /** Eight P, but for one character. */
    private static long rowWith(int at, int character) {
        long others = row("PPPPPPPP") & ~(255L << 8 * at);
        return others | (long) character << 8 * at;
    }
}
