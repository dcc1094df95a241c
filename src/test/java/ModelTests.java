import java.util.ArrayList;
import java.util.HashMap;
import java.util.LinkedHashSet;
import java.util.List;
import java.util.Map;
import java.util.NoSuchElementException;
import java.util.Random;
import java.util.Set;
import java.util.TreeSet;
import java.util.concurrent.Callable;
import java.util.regex.Pattern;

/**
 * Compares every call with a plain model, which says the document's terms over again with texts and
 * sets and shares no code with the class (but the same reading of the document, so a misreading would
 * show in neither): a text's fault by looking at each of its beginnings, atoms
 * and literals as texts, tables one by one in their order.
 */
public final class ModelTests {
    private static final Pattern BEGINNING =
        Pattern.compile("(-?[PQRS][abcxyz]{0,2}[&|])*(-|-?[PQRS][abcxyz]{0,2})?");
    private static final Pattern WHOLE =
        Pattern.compile("(-?[PQRS][abcxyz]{0,2}[&|])*-?[PQRS][abcxyz]{0,2}");

    private static int wrong = 0;
    private static int sentences = 0;
    private static int faults = 0;
    /** Calls on the object that is asked: each answer is looked at once. */
    private static int calls = 0;

    public static void main(String[] args) {
        Random random = new Random(20261115);
        for (int run = 0; run < 2000; run++) {
            runOnOneObject(random);
        }
        System.out.println(sentences + " sentences, " + faults + " faults, " + wrong + " answers not as due");
        if (wrong != 0 || sentences < 1000 || faults < 1000) {
            System.exit(1);
        }
    }

    private static void runOnOneObject(Random random) {
        HerbrandTables t = new HerbrandTables();
        calls = 0;
        Model model = null;
        String text = "";
        for (int turn = 0; turn < 3; turn++) {
            String more = random.nextInt(3) == 0 ? spoil(someText(random), random) : someText(random);
            if (random.nextInt(4) != 0) {
                due(text, "erase", t.erase(), text.length());
                text = "";
            }
            text = typeAll(t, text, more, random);
            int fault = faultOf(text);
            long want = -1001;
            if (fault == -1) {
                model = new Model(text);
                want = model.instances.size();
                sentences++;
            } else {
                faults++;
            }
            due(text, "read", answer(t::read), want);
            due(text, "fault", t.fault(), fault);
            if (fault == -1) {
                text = "";
            }
            if (model != null) {
                compare(t, model, random);
            } else {
                compareWithNoSentence(t, text);
            }
        }
        // Nothing is promised after the 512th call, so nothing may be asked then.
        if (calls > 512) {
            throw new IllegalStateException(calls + " calls on one object");
        }
    }

    /** Types rows of many lengths, as long as they are taken; answers the text that is there then. */
    private static String typeAll(HerbrandTables t, String text, String more, Random random) {
        String now = text;
        for (int from = 0; from < more.length();) {
            int to = Math.min(more.length(), from + 1 + random.nextInt(8));
            String part = more.substring(from, to);
            boolean fits = now.length() + part.length() <= 96;
            due(now, "type", t.type(row(part)) ? 1 : 0, fits ? 1 : 0);
            now = fits ? now + part : now;
            from = to;
        }
        return now;
    }

    private static void compareWithNoSentence(HerbrandTables t, String text) {
        due(text, "clauses", t.clauses(), 0);
        due(text, "atoms", t.atoms(), 0);
        due(text, "instances", t.instances(), 0);
        due(text, "instancesOf 0", t.instancesOf(0), -1);
        due(text, "atom 0 0 0", t.atom(0, 0, 0), -1);
        due(text, "holds", t.holds() ? 1 : 0, 1);
        due(text, "tables", answer(t::tables), -1002);
        due(text, "least", answer(t::least), -1002);
        due(text, "greatest", answer(t::greatest), -1002);
        due(text, "forced 0", answer(() -> t.forced(0)), -1002);
        due(text, "without 0", answer(() -> t.without(0) ? 1 : 0), -1002);
        due(text, "core 0", answer(() -> t.core(0) ? 1 : 0), -1002);
    }

    private static void compare(HerbrandTables t, Model model, Random random) {
        String text = model.text;
        due(text, "clauses", t.clauses(), model.clauses.size());
        due(text, "atoms", t.atoms(), model.atoms.size());
        due(text, "instances", t.instances(), model.instances.size());
        for (int p = 0; p <= 3; p++) {
            for (int one = 0; one <= 2; one++) {
                for (int two = 0; two <= 2; two++) {
                    compareAtom(t, model, p, one, two);
                }
            }
            compareAtom(t, model, p, random.nextInt(), random.nextInt(3));
            compareAtom(t, model, p, random.nextInt(3), random.nextInt());
        }
        compareAtom(t, model, random.nextInt(), 0, 0);
        int all = (1 << model.clauses.size()) - 1;
        List<String> found = model.tablesOf(all);
        due(text, "holds", t.holds() ? 1 : 0, found.isEmpty() ? 0 : 1);
        due(text, "tables", answer(t::tables), found.size());
        due(text, "least", answer(t::least), found.isEmpty() ? -1004 : model.sum(found.get(0)));
        due(text, "greatest", answer(t::greatest), found.isEmpty() ? -1004 : model.sum(found.get(found.size() - 1)));
        for (int a = -1; a <= model.atoms.size(); a++) {
            int atom = a;
            due(text, "forced " + a, answer(() -> t.forced(atom)), model.forced(a, found));
        }
        for (int k = -1; k <= model.clauses.size(); k++) {
            int clause = k;
            boolean there = k >= 0 && k < model.clauses.size();
            due(text, "instancesOf " + k, t.instancesOf(k), there ? model.instancesOf.get(k).size() : -1);
            long want = !there ? -1003 : model.tablesOf(all - (1 << k)).isEmpty() ? 0 : 1;
            due(text, "without " + k, answer(() -> t.without(clause) ? 1 : 0), want);
        }
        for (int i = 0; i < 12; i++) {
            int sum = i == 0 ? -1 : i == 1 ? all + 1 : i == 2 ? all : random.nextInt(all + 1);
            boolean there = sum >= 0 && sum <= all;
            due(text, "core " + sum, answer(() -> t.core(sum) ? 1 : 0), !there ? -1003 : model.core(sum) ? 1 : 0);
        }
        int least = model.leastCore(all);
        if (least != 0) {
            due(text, "core " + least, answer(() -> t.core(least) ? 1 : 0), 1);
        }
    }

    private static void compareAtom(HerbrandTables t, Model model, int predicate, int one, int two) {
        String call = "atom " + predicate + " " + one + " " + two;
        due(model.text, call, t.atom(predicate, one, two), model.atom(predicate, one, two));
    }

    private static int faultOf(String text) {
        for (int i = 0; i < text.length(); i++) {
            if (!canBegin(text.substring(0, i + 1))) {
                return i;
            }
        }
        return isSentence(text) ? -1 : text.length();
    }

    private static boolean isSentence(String text) {
        return WHOLE.matcher(text).matches() && countsFit(text) && literalsFit(text, true);
    }

    private static boolean canBegin(String part) {
        return BEGINNING.matcher(part).matches() && countsFit(part) && literalsFit(part, false);
    }

    private static boolean countsFit(String part) {
        String[] clauses = part.split("&", -1);
        boolean good = clauses.length <= 12;
        for (String clause : clauses) {
            good &= clause.split("[|]", -1).length <= 4;
        }
        return good;
    }

    /** The last literal is whole when something stands behind it, or when it is said to be. */
    private static boolean literalsFit(String part, boolean lastIsWhole) {
        String[] literals = part.replace("-", "").split("[&|]", -1);
        Map<Character, Integer> arguments = new HashMap<>();
        for (int i = 0; i < literals.length; i++) {
            if (literals[i].isEmpty()) {
                continue;
            }
            boolean whole = i < literals.length - 1 || lastIsWhole;
            int count = literals[i].length() - 1;
            Integer known = arguments.get(literals[i].charAt(0));
            if (known != null && (count > known || whole && count < known)) {
                return false;
            }
            if (known == null && whole) {
                arguments.put(literals[i].charAt(0), count);
            }
        }
        int things = Math.max(1, constantsOf(part).size());
        int atoms = 0;
        for (int count : arguments.values()) {
            atoms += (int) Math.pow(things, count);
        }
        return atoms <= 12;
    }

    private static Set<Character> constantsOf(String text) {
        Set<Character> constants = new TreeSet<>();
        for (char c : text.toCharArray()) {
            if ("abc".indexOf(c) >= 0) {
                constants.add(c);
            }
        }
        return constants;
    }

    /** A sentence as the document tells of it. */
    private static final class Model {
        final String text;
        final List<String> clauses;
        final List<String> things = new ArrayList<>();
        final List<String> atoms = new ArrayList<>();
        final List<Set<Set<String>>> instancesOf = new ArrayList<>();
        final Set<Set<String>> instances = new LinkedHashSet<>();
        final List<String> allTables = new ArrayList<>();
        final Map<Integer, List<String>> tablesOf = new HashMap<>();

        Model(String text) {
            this.text = text;
            clauses = List.of(text.split("&"));
            for (char c : constantsOf(text)) {
                things.add("" + c);
            }
            if (things.isEmpty()) {
                things.add("a");
            }
            for (String predicate : List.of("P", "Q", "R", "S")) {
                addAtoms(predicate);
            }
            for (String clause : clauses) {
                Set<Set<String>> own = new LinkedHashSet<>();
                putThings(clause, "xyz", own);
                instancesOf.add(own);
                instances.addAll(own);
            }
            addTables("");
        }

        private void addAtoms(String predicate) {
            int at = text.indexOf(predicate);
            if (at < 0) {
                return;
            }
            int count = text.substring(at + 1).split("[&|]", -1)[0].length();
            List<String> made = List.of(predicate);
            for (int i = 0; i < count; i++) {
                List<String> longer = new ArrayList<>();
                for (String begun : made) {
                    for (String thing : things) {
                        longer.add(begun + thing);
                    }
                }
                made = longer;
            }
            atoms.addAll(made);
        }

        private void putThings(String clause, String variables, Set<Set<String>> own) {
            if (!variables.isEmpty()) {
                for (String thing : things) {
                    putThings(clause.replace(variables.substring(0, 1), thing), variables.substring(1), own);
                }
                return;
            }
            Set<String> literals = new TreeSet<>(List.of(clause.split("[|]")));
            for (String literal : literals) {
                if (literals.contains("-" + literal)) {
                    return;
                }
            }
            own.add(literals);
        }

        /** A table is a text of 0 and 1, the first atom first, so that texts are in the tables' order. */
        private void addTables(String begun) {
            if (begun.length() == atoms.size()) {
                allTables.add(begun);
                return;
            }
            addTables(begun + "0");
            addTables(begun + "1");
        }

        List<String> tablesOf(int sum) {
            return tablesOf.computeIfAbsent(sum, this::findTables);
        }

        private List<String> findTables(int sum) {
            List<int[]> needed = new ArrayList<>();
            for (int k = 0; k < clauses.size(); k++) {
                if ((sum >> k & 1) == 1) {
                    for (Set<String> instance : instancesOf.get(k)) {
                        needed.add(compile(instance));
                    }
                }
            }
            List<String> found = new ArrayList<>();
            for (String table : allTables) {
                if (needed.stream().allMatch(instance -> agrees(table, instance))) {
                    found.add(table);
                }
            }
            return found;
        }

        /** Pairs of an atom and the character that it is to have. */
        private int[] compile(Set<String> instance) {
            int[] pairs = new int[instance.size() * 2];
            int i = 0;
            for (String literal : instance) {
                pairs[i++] = atoms.indexOf(literal.replace("-", ""));
                pairs[i++] = literal.startsWith("-") ? '0' : '1';
            }
            return pairs;
        }

        private boolean agrees(String table, int[] pairs) {
            for (int i = 0; i < pairs.length; i += 2) {
                if (table.charAt(pairs[i]) == pairs[i + 1]) {
                    return true;
                }
            }
            return false;
        }

        int sum(String table) {
            int sum = 0;
            for (int i = 0; i < table.length(); i++) {
                sum += table.charAt(i) == '1' ? 1 << i : 0;
            }
            return sum;
        }

        long forced(int atom, List<String> found) {
            if (atom < 0 || atom >= atoms.size()) {
                return -1003;
            }
            if (found.isEmpty()) {
                return -1004;
            }
            long ones = found.stream().filter(table -> table.charAt(atom) == '1').count();
            return ones == found.size() ? 1 : ones == 0 ? 0 : 2;
        }

        boolean core(int sum) {
            boolean core = tablesOf(sum).isEmpty();
            for (int k = 0; k < clauses.size() && core; k++) {
                core = (sum >> k & 1) == 0 || !tablesOf(sum - (1 << k)).isEmpty();
            }
            return core;
        }

        /** Leaves out clauses as long as the rest can't hold; 0 when all can. */
        int leastCore(int all) {
            int sum = all;
            for (int k = 0; k < clauses.size(); k++) {
                if (tablesOf(sum - (1 << k)).isEmpty()) {
                    sum -= 1 << k;
                }
            }
            return tablesOf(sum).isEmpty() ? sum : 0;
        }

        int atom(int predicate, int one, int two) {
            int number = -1;
            for (int i = 0; i < atoms.size(); i++) {
                String atom = atoms.get(i);
                boolean same = atom.charAt(0) - 'P' == predicate
                    && (atom.length() < 2 || atom.charAt(1) - 'a' == one)
                    && (atom.length() < 3 || atom.charAt(2) - 'a' == two);
                number = same ? i : number;
            }
            return number;
        }
    }

    /** Often a sentence, sometimes too large; predicates keep their numbers of arguments. */
    private static String someText(Random random) {
        int[] arguments = {random.nextInt(3), random.nextInt(3), random.nextInt(2), random.nextInt(3)};
        String letters = new String[] {"xyz", "axy", "abxyz", "abcxyz", "ab", "bcxx", "acxz"}[random.nextInt(7)];
        int predicates = 1 + random.nextInt(4);
        int mostClauses = 1 + random.nextInt(13);
        int mostLiterals = random.nextInt(12) == 0 ? 5 : 1 + random.nextInt(4);
        StringBuilder text = new StringBuilder();
        for (int k = 0; k < mostClauses; k++) {
            text.append(k == 0 ? "" : "&");
            int literals = 1 + random.nextInt(mostLiterals);
            for (int i = 0; i < literals; i++) {
                int predicate = random.nextInt(predicates);
                text.append(i == 0 ? "" : "|").append(random.nextBoolean() ? "-" : "").append((char) ('P' + predicate));
                for (int a = 0; a < arguments[predicate]; a++) {
                    text.append(letters.charAt(random.nextInt(letters.length())));
                }
            }
            if (text.length() > 84 && random.nextInt(10) != 0) {
                break;
            }
        }
        return text.toString();
    }

    private static String spoil(String text, Random random) {
        String letters = "PQRSabcxyz-&|Tdw!~p";
        StringBuilder spoilt = new StringBuilder(text);
        int at = random.nextInt(text.length());
        char letter = letters.charAt(random.nextInt(letters.length()));
        switch (random.nextInt(4)) {
            case 0:
                spoilt.setCharAt(at, letter);
                break;
            case 1:
                spoilt.insert(at, letter);
                break;
            case 2:
                spoilt.deleteCharAt(at);
                break;
            default:
                spoilt.setLength(at);
        }
        return spoilt.toString();
    }

    private static long row(String part) {
        long row = 0;
        for (int i = part.length() - 1; i >= 0; i--) {
            row = row << 8 | part.charAt(i);
        }
        return row;
    }

    private static long answer(Callable<Integer> call) {
        try {
            return call.call();
        } catch (IllegalArgumentException e) {
            return -1001;
        } catch (IllegalStateException e) {
            return -1002;
        } catch (IndexOutOfBoundsException e) {
            return e.getClass() == IndexOutOfBoundsException.class ? -1003 : -1005;
        } catch (NoSuchElementException e) {
            return -1004;
        } catch (Exception e) {
            return -1005;
        }
    }

    private static void due(String text, String call, long got, long want) {
        calls++;
        if (got != want) {
            wrong++;
            if (wrong < 50) {
                System.out.println("'" + text + "' " + call + ": answered " + got + ", due is " + want);
            }
        }
    }
}
