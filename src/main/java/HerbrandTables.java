import java.util.Arrays;
import java.util.NoSuchElementException;

/**
 * Decides sentences that say: there are some things, named by constants, so that for all things
 * whatever, named by variables, some clauses hold; by putting constants for variables in every way,
 * and looking for tables of what is true then.
 */
public final class HerbrandTables {
    public static final int NONE = -1;

    private static final int MOST_CHARACTERS = 96;
    private static final int LOWEST_CHARACTER = 33;
    private static final int HIGHEST_CHARACTER = 126;
    private static final int CHARACTERS_OF_ROW = 8;

    private static final int MOST_CLAUSES = 12;
    private static final int MOST_LITERALS = 4;
    private static final int MOST_ARGUMENTS = 2;
    private static final int MOST_ATOMS = 12;
    private static final int PREDICATES = 4;
    private static final int CONSTANTS = 3;
    private static final int VARIABLES = 3;

    /** Three things put for three variables in every way. */
    private static final int MOST_INSTANCES_OF_CLAUSE = 27;

    /** A word holds the tables that differ in their last six atoms alone. */
    private static final int ATOMS_OF_WORD = 6;
    private static final int MOST_WORDS = 1 << (MOST_ATOMS - ATOMS_OF_WORD);

    /** In which tables of a word the last atom is true, the last but one, and so on. */
    private static final long[] TRUE_IN_WORD = {
        0xAAAAAAAAAAAAAAAAL, 0xCCCCCCCCCCCCCCCCL, 0xF0F0F0F0F0F0F0F0L,
        0xFF00FF00FF00FF00L, 0xFFFF0000FFFF0000L, 0xFFFFFFFF00000000L
    };

    private final Text text = new Text();
    private final Reader reader = new Reader();
    private final Sentence sentence = new Sentence();
    private int latestFault = NONE;

    public HerbrandTables() {
    }

    public boolean type(long row) {
        return text.append(row);
    }

    public int erase() {
        return text.empty();
    }

    public int read() throws IllegalArgumentException {
        latestFault = reader.findFault(text);
        if (latestFault != NONE) {
            throw new IllegalArgumentException();
        }
        sentence.become(reader);
        text.empty();
        return sentence.instanceCount();
    }

    public int fault() {
        return latestFault;
    }

    public int clauses() {
        return sentence.clauseCount;
    }

    public int atoms() {
        return sentence.vocabulary.atomCount;
    }

    public int atom(int predicate, int one, int two) {
        return sentence.vocabulary.findAtom(predicate, one, two);
    }

    public int instances() {
        return sentence.instanceCount();
    }

    public int instancesOf(int k) {
        return sentence.hasClause(k) ? sentence.ownInstances[k] : NONE;
    }

    public boolean holds() {
        // True without a sentence too: no clause takes away the one table that no atoms make.
        return sentence.canHold(sentence.everyClause());
    }

    public int tables() throws IllegalStateException {
        requireSentence();
        return sentence.tablesOf(sentence.everyClause()).size();
    }

    public int least() throws IllegalStateException, NoSuchElementException {
        requireSentence();
        TableSet found = someTables();
        return found.trueAtoms(found.first());
    }

    public int greatest() throws IllegalStateException, NoSuchElementException {
        requireSentence();
        TableSet found = someTables();
        return found.trueAtoms(found.last());
    }

    public int forced(int atom)
            throws IllegalStateException, IndexOutOfBoundsException, NoSuchElementException {
        requireSentence();
        if (atom < 0 || atom >= sentence.vocabulary.atomCount) {
            throw new IndexOutOfBoundsException();
        }
        TableSet found = someTables();
        boolean somewhereTrue = found.hasTableWith(atom, true);
        boolean somewhereFalse = found.hasTableWith(atom, false);
        if (somewhereTrue && somewhereFalse) {
            return 2;
        }
        return somewhereTrue ? 1 : 0;
    }

    public boolean without(int k) throws IllegalStateException, IndexOutOfBoundsException {
        requireSentence();
        if (!sentence.hasClause(k)) {
            throw new IndexOutOfBoundsException();
        }
        return sentence.canHold(sentence.everyClause() - (1 << k));
    }

    public boolean core(int sum) throws IllegalStateException, IndexOutOfBoundsException {
        requireSentence();
        if (sum < 0 || sum > sentence.everyClause()) {
            throw new IndexOutOfBoundsException();
        }
        return !sentence.canHold(sum) && sentence.canHoldWithoutAnyOne(sum);
    }

    private void requireSentence() {
        if (sentence.clauseCount == 0) {
            throw new IllegalStateException();
        }
    }

    /** The tables in which the sentence holds, when there are some. */
    private TableSet someTables() {
        TableSet found = sentence.tablesOf(sentence.everyClause());
        if (found.isEmpty()) {
            throw new NoSuchElementException();
        }
        return found;
    }

    /** The characters that have been typed and not yet read. */
    private static final class Text {
        private final char[] characters = new char[MOST_CHARACTERS];
        private int length;

        boolean append(long row) {
            int added = countCharacters(row);
            if (added == NONE || length + added > MOST_CHARACTERS) {
                return false;
            }
            for (int i = 0; i < added; i++) {
                characters[length + i] = (char) character(row, i);
            }
            length += added;
            return true;
        }

        int empty() {
            int had = length;
            length = 0;
            return had;
        }

        /** 0 behind the end: no character of a text is 0, so the end is never taken for one. */
        char at(int place) {
            return place >= 0 && place < length ? characters[place] : (char) 0;
        }

        private static int countCharacters(long row) {
            for (int i = 0; i < CHARACTERS_OF_ROW; i++) {
                int character = character(row, i);
                if (character == 0) {
                    return i;
                }
                if (character < LOWEST_CHARACTER || character > HIGHEST_CHARACTER) {
                    return NONE;
                }
            }
            return CHARACTERS_OF_ROW;
        }

        private static int character(long row, int i) {
            return (int) (row >>> (8 * i)) & 255;
        }
    }

    /** Predicates with their numbers of arguments, and constants; and the atoms that they make. */
    private static final class Vocabulary {
        /** NONE for a predicate that has not been met. */
        private final int[] arguments = new int[PREDICATES];
        private final int[] firstAtoms = new int[PREDICATES];
        /** The sum of 2^constant. */
        private int constants;
        private int thingCount;
        private int atomCount;

        Vocabulary() {
            Arrays.fill(arguments, NONE);
        }

        void clear() {
            Arrays.fill(arguments, NONE);
            constants = 0;
            recount();
        }

        void become(Vocabulary other) {
            System.arraycopy(other.arguments, 0, arguments, 0, PREDICATES);
            constants = other.constants;
            recount();
        }

        void addPredicate(int predicate, int argumentCount) {
            arguments[predicate] = argumentCount;
            recount();
        }

        void addConstant(int constant) {
            constants |= 1 << constant;
            recount();
        }

        /** Which of the things a constant is, counted from 0; NONE when it is none of them. */
        int findThing(int constant) {
            if (constant < 0 || constant >= CONSTANTS) {
                return NONE;
            }
            int things = constants == 0 ? 1 : constants;
            boolean isThing = (things >> constant & 1) != 0;
            return isThing ? Integer.bitCount(things & ((1 << constant) - 1)) : NONE;
        }

        /** The number of an atom whose arguments are things, counted from 0. */
        int number(int predicate, int thingOne, int thingTwo) {
            switch (arguments[predicate]) {
                case 1:
                    return firstAtoms[predicate] + thingOne;
                case 2:
                    return firstAtoms[predicate] + thingOne * thingCount + thingTwo;
                default:
                    return firstAtoms[predicate];
            }
        }

        int findAtom(int predicate, int one, int two) {
            if (predicate < 0 || predicate >= PREDICATES || arguments[predicate] == NONE) {
                return NONE;
            }
            int thingOne = findThing(one);
            int thingTwo = findThing(two);
            boolean missing = arguments[predicate] >= 1 && thingOne == NONE
                || arguments[predicate] >= 2 && thingTwo == NONE;
            return missing ? NONE : number(predicate, thingOne, thingTwo);
        }

        private void recount() {
            thingCount = Math.max(1, Integer.bitCount(constants));
            atomCount = 0;
            for (int p = 0; p < PREDICATES; p++) {
                firstAtoms[p] = atomCount;
                atomCount += countAtoms(arguments[p]);
            }
        }

        private int countAtoms(int argumentCount) {
            switch (argumentCount) {
                case 0:
                    return 1;
                case 1:
                    return thingCount;
                case 2:
                    return thingCount * thingCount;
                default:
                    return 0;
            }
        }
    }

    /** A predicate with its arguments: 0 .. 2 are constants, 3 .. 5 are variables. */
    private static final class Literal {
        private boolean negative;
        private int predicate;
        private final int[] arguments = new int[MOST_ARGUMENTS];
    }

    /** Goes through a text from left to right, and keeps what it says. */
    private static final class Reader {
        private final Vocabulary vocabulary = new Vocabulary();
        private final Literal[] literals = new Literal[MOST_CLAUSES * MOST_LITERALS];
        private final int[] literalCounts = new int[MOST_CLAUSES];
        private int clauseCount;
        private int place;

        Reader() {
            for (int i = 0; i < literals.length; i++) {
                literals[i] = new Literal();
            }
        }

        int findFault(Text text) {
            place = 0;
            vocabulary.clear();
            Arrays.fill(literalCounts, 0);
            clauseCount = 1;
            for (int i = 0; i < literals.length; i++) {
                if (!readLiteral(text)) {
                    return place;
                }
                if (place == text.length) {
                    return NONE;
                }
                if (!readJoint(text)) {
                    return place;
                }
            }
            return place;
        }

        Literal literal(int clause, int i) {
            return literals[clause * MOST_LITERALS + i];
        }

        /** False when the character at the place can't stand there. */
        private boolean readLiteral(Text text) {
            int clause = clauseCount - 1;
            Literal literal = literal(clause, literalCounts[clause]);
            literal.negative = text.at(place) == '-';
            if (literal.negative) {
                place++;
            }
            literal.predicate = predicateOf(text.at(place));
            if (literal.predicate == NONE) {
                return false;
            }
            place++;
            literalCounts[clause]++;
            return readArguments(text, literal);
        }

        private boolean readArguments(Text text, Literal literal) {
            int asked = vocabulary.arguments[literal.predicate];
            int most = asked == NONE ? MOST_ARGUMENTS : asked;
            int found = 0;
            while (found < most && argumentOf(text.at(place)) != NONE) {
                int argument = argumentOf(text.at(place));
                if (argument < CONSTANTS) {
                    vocabulary.addConstant(argument);
                }
                // A new predicate is not reckoned yet: its arguments have not ended.
                if (vocabulary.atomCount > MOST_ATOMS) {
                    return false;
                }
                literal.arguments[found] = argument;
                found++;
                place++;
            }
            if (asked != NONE) {
                return found == asked;
            }
            vocabulary.addPredicate(literal.predicate, found);
            return vocabulary.atomCount <= MOST_ATOMS;
        }

        /** False when the character at the place can't stand there, or begins one part too many. */
        private boolean readJoint(Text text) {
            char joint = text.at(place);
            if (joint == '&' && clauseCount < MOST_CLAUSES) {
                clauseCount++;
            } else if (joint != '|' || literalCounts[clauseCount - 1] >= MOST_LITERALS) {
                return false;
            }
            place++;
            return true;
        }

        private static int predicateOf(char character) {
            return character >= 'P' && character <= 'S' ? character - 'P' : NONE;
        }

        private static int argumentOf(char character) {
            if (character >= 'a' && character <= 'c') {
                return character - 'a';
            }
            return character >= 'x' && character <= 'z' ? CONSTANTS + character - 'x' : NONE;
        }
    }

    /** Clauses whose instances have been made, with the tables in which each clause holds. */
    private static final class Sentence {
        private final Vocabulary vocabulary = new Vocabulary();
        private int clauseCount;
        private final int[] ownInstances = new int[MOST_CLAUSES];
        private final InstanceSet allInstances = new InstanceSet(MOST_CLAUSES * MOST_INSTANCES_OF_CLAUSE);
        private final InstanceSet clauseInstances = new InstanceSet(MOST_INSTANCES_OF_CLAUSE);
        private final Instance instance = new Instance();
        private final TableSet[] clauseTables = new TableSet[MOST_CLAUSES];
        private final TableSet instanceTables = new TableSet();
        private final TableSet commonTables = new TableSet();
        /** Which thing stands for each argument: for the constants, then for the variables. */
        private final int[] things = new int[CONSTANTS + VARIABLES];

        Sentence() {
            for (int k = 0; k < MOST_CLAUSES; k++) {
                clauseTables[k] = new TableSet();
            }
        }

        void become(Reader reader) {
            vocabulary.become(reader.vocabulary);
            clauseCount = reader.clauseCount;
            allInstances.clear();
            for (int constant = 0; constant < CONSTANTS; constant++) {
                things[constant] = vocabulary.findThing(constant);
            }
            for (int k = 0; k < clauseCount; k++) {
                makeInstances(reader, k);
            }
        }

        int instanceCount() {
            return allInstances.size;
        }

        boolean hasClause(int k) {
            return k >= 0 && k < clauseCount;
        }

        /** The sum of 2^k for every clause k. */
        int everyClause() {
            return (1 << clauseCount) - 1;
        }

        /** The tables in which the clauses of a sum hold together; good until it is asked again. */
        TableSet tablesOf(int sum) {
            commonTables.fill(vocabulary.atomCount);
            for (int k = 0; k < clauseCount; k++) {
                if ((sum >> k & 1) != 0) {
                    commonTables.keepCommon(clauseTables[k]);
                }
            }
            return commonTables;
        }

        boolean canHold(int sum) {
            return !tablesOf(sum).isEmpty();
        }

        boolean canHoldWithoutAnyOne(int sum) {
            for (int k = 0; k < clauseCount; k++) {
                if ((sum >> k & 1) != 0 && !canHold(sum - (1 << k))) {
                    return false;
                }
            }
            return true;
        }

        /** Things are put for absent variables too: that makes the same sets again, which count once. */
        private void makeInstances(Reader reader, int k) {
            clauseInstances.clear();
            clauseTables[k].fill(vocabulary.atomCount);
            int thingCount = vocabulary.thingCount;
            for (int x = 0; x < thingCount; x++) {
                for (int y = 0; y < thingCount; y++) {
                    for (int z = 0; z < thingCount; z++) {
                        things[CONSTANTS] = x;
                        things[CONSTANTS + 1] = y;
                        things[CONSTANTS + 2] = z;
                        makeInstance(reader, k);
                    }
                }
            }
            ownInstances[k] = clauseInstances.size;
        }

        private void makeInstance(Reader reader, int k) {
            instance.clear();
            for (int i = 0; i < reader.literalCounts[k]; i++) {
                Literal literal = reader.literal(k, i);
                instance.add(atomOf(literal), literal.negative);
            }
            if (!instance.isLeftOut() && clauseInstances.add(instance.code())) {
                allInstances.add(instance.code());
                instanceTables.becomeTablesOf(instance, vocabulary.atomCount);
                clauseTables[k].keepCommon(instanceTables);
            }
        }

        /** An argument that the predicate lacks is whatever was read there once: it is left aside. */
        private int atomOf(Literal literal) {
            int thingOne = things[literal.arguments[0]];
            int thingTwo = things[literal.arguments[1]];
            return vocabulary.number(literal.predicate, thingOne, thingTwo);
        }
    }

    /** Atoms that are to be true and atoms that are to be false, each as the sum of 2^atom. */
    private static final class Instance {
        private int trueAtoms;
        private int falseAtoms;

        void clear() {
            trueAtoms = 0;
            falseAtoms = 0;
        }

        void add(int atom, boolean negative) {
            if (negative) {
                falseAtoms |= 1 << atom;
            } else {
                trueAtoms |= 1 << atom;
            }
        }

        boolean wants(int atom, boolean truth) {
            return ((truth ? trueAtoms : falseAtoms) >> atom & 1) != 0;
        }

        boolean isLeftOut() {
            return (trueAtoms & falseAtoms) != 0;
        }

        /** The same number for the same sets of literals alone. */
        int code() {
            return falseAtoms << MOST_ATOMS | trueAtoms;
        }
    }

    /** Codes of instances, each of them once. */
    private static final class InstanceSet {
        private final int[] codes;
        private int size;

        InstanceSet(int most) {
            codes = new int[most];
        }

        void clear() {
            size = 0;
        }

        /** False when it was there already. */
        boolean add(int code) {
            for (int i = 0; i < size; i++) {
                if (codes[i] == code) {
                    return false;
                }
            }
            if (size < codes.length) {
                codes[size] = code;
                size++;
            }
            return true;
        }
    }

    /**
     * Tables, a bit for each. A table's number is its place in the order of tables, so that the first
     * atom is the number's highest bit, and the last atom its lowest one.
     */
    private static final class TableSet {
        private final long[] words = new long[MOST_WORDS];
        private int wordCount;
        private int atomCount;

        /** All tables of so many atoms. */
        void fill(int atoms) {
            measure(atoms);
            long all = atoms < ATOMS_OF_WORD ? (1L << (1 << atoms)) - 1 : -1L;
            Arrays.fill(words, all);
        }

        void becomeTablesOf(Instance instance, int atoms) {
            measure(atoms);
            Arrays.fill(words, 0L);
            for (int atom = 0; atom < atoms; atom++) {
                if (instance.wants(atom, true)) {
                    addTablesWith(atom, true);
                }
                if (instance.wants(atom, false)) {
                    addTablesWith(atom, false);
                }
            }
        }

        void keepCommon(TableSet other) {
            for (int w = 0; w < wordCount; w++) {
                words[w] &= other.words[w];
            }
        }

        boolean isEmpty() {
            return size() == 0;
        }

        int size() {
            int count = 0;
            for (int w = 0; w < wordCount; w++) {
                count += Long.bitCount(words[w]);
            }
            return count;
        }

        int first() {
            for (int table = 0; table < 1 << atomCount; table++) {
                if (has(table)) {
                    return table;
                }
            }
            return NONE;
        }

        int last() {
            for (int table = (1 << atomCount) - 1; table >= 0; table--) {
                if (has(table)) {
                    return table;
                }
            }
            return NONE;
        }

        boolean hasTableWith(int atom, boolean truth) {
            for (int w = 0; w < wordCount; w++) {
                if ((words[w] & wordWith(w, atom, truth)) != 0) {
                    return true;
                }
            }
            return false;
        }

        /** The sum of 2^atom for each atom that is true in a table. */
        int trueAtoms(int table) {
            int sum = 0;
            for (int atom = 0; atom < atomCount; atom++) {
                sum |= (table >> (atomCount - 1 - atom) & 1) << atom;
            }
            return sum;
        }

        private void measure(int atoms) {
            atomCount = atoms;
            wordCount = atoms < ATOMS_OF_WORD ? 1 : 1 << (atoms - ATOMS_OF_WORD);
        }

        private boolean has(int table) {
            return (words[table >> ATOMS_OF_WORD] >>> table & 1) != 0;
        }

        private void addTablesWith(int atom, boolean truth) {
            for (int w = 0; w < wordCount; w++) {
                words[w] |= wordWith(w, atom, truth);
            }
        }

        /** Word w of the tables in which an atom is as told. */
        private long wordWith(int w, int atom, boolean truth) {
            int bit = atomCount - 1 - atom;
            long whereTrue;
            if (bit < ATOMS_OF_WORD) {
                whereTrue = TRUE_IN_WORD[bit];
            } else {
                whereTrue = (w >> (bit - ATOMS_OF_WORD) & 1) != 0 ? -1L : 0L;
            }
            return truth ? whereTrue : ~whereTrue;
        }
    }
}
