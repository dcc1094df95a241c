import java.util.NoSuchElementException;

/** What the tests share: ways to ask an object, and a count of the answers that are not as due. */
abstract class Checks {
    static final long ILLEGAL_ARGUMENT = -1001;
    static final long ILLEGAL_STATE = -1002;
    static final long OUT_OF_BOUNDS = -1003;
    static final long NO_ELEMENT = -1004;
    static final long OTHER = -1005;

    static final int NONE = -1;
    static final int LEAST = Integer.MIN_VALUE;
    static final int GREATEST = Integer.MAX_VALUE;

    private static int checked = 0;
    private static int wrong = 0;

    interface Call {
        long answer();
    }

    static void due(String what, boolean got, long want) {
        due(what, got ? 1L : 0L, want);
    }

    static void due(String what, long got, long want) {
        checked++;
        if (got != want) {
            wrong++;
            System.out.println(testMethod() + ": " + what + ": answered " + told(got) + ", due is " + told(want));
        }
    }

    static void dueText(String what, String got, String want) {
        checked++;
        if (!got.equals(want)) {
            wrong++;
            System.out.println(testMethod() + ": " + what + ": answered\n    " + got + "\n  due is\n    " + want);
        }
    }

    static void end() {
        System.out.println(checked + " answers, " + wrong + " not as due");
        if (wrong != 0 || checked == 0) {
            System.exit(1);
        }
    }

    static HerbrandTables sentence(String text) {
        HerbrandTables t = new HerbrandTables();
        type(t, text);
        due("read() of '" + text + "' does not throw", read(t) >= 0, 1);
        return t;
    }

    /** An object with a text that has not been read. */
    static HerbrandTables typed(String text) {
        HerbrandTables t = new HerbrandTables();
        type(t, text);
        return t;
    }

    static long readNew(String text) {
        return read(typed(text));
    }

    static int faultOf(String text) {
        HerbrandTables t = typed(text);
        long answer = read(t);
        due("read() of '" + text + "' throws when there is a fault", answer == ILLEGAL_ARGUMENT,
            t.fault() == NONE ? 0 : 1);
        return t.fault();
    }

    static void dueFault(String text, int want) {
        due("fault of '" + text + "'", faultOf(text), want);
    }

    static void type(HerbrandTables t, String text) {
        for (int from = 0; from < text.length(); from += 8) {
            String part = text.substring(from, Math.min(from + 8, text.length()));
            due("type of '" + part + "' in '" + text + "'", t.type(row(part)), 1);
        }
    }

    static long row(String part) {
        long row = 0;
        for (int i = 0; i < part.length(); i++) {
            row |= (long) part.charAt(i) << (8 * i);
        }
        return row;
    }

    static long read(HerbrandTables t) {
        return call(() -> t.read());
    }

    static long tables(HerbrandTables t) {
        return call(() -> t.tables());
    }

    static long least(HerbrandTables t) {
        return call(() -> t.least());
    }

    static long greatest(HerbrandTables t) {
        return call(() -> t.greatest());
    }

    static long forced(HerbrandTables t, int atom) {
        return call(() -> t.forced(atom));
    }

    static long without(HerbrandTables t, int k) {
        return call(() -> t.without(k) ? 1 : 0);
    }

    static long core(HerbrandTables t, int sum) {
        return call(() -> t.core(sum) ? 1 : 0);
    }

    static long call(Call call) {
        try {
            return call.answer();
        } catch (RuntimeException e) {
            return codeOf(e.getClass());
        }
    }

    /** What is answered of the sentence: some 120 of the 512 calls that an object is good for. */
    static String answersOf(HerbrandTables t) {
        StringBuilder all = new StringBuilder();
        all.append("clauses ").append(t.clauses());
        all.append(" atoms ").append(t.atoms()).append(':');
        for (int i = 0; i < 36; i++) {
            all.append(' ').append(t.atom(i / 9, i / 3 % 3, i % 3));
        }
        all.append(" instances ").append(t.instances()).append(':');
        for (int k = 0; k <= 12; k++) {
            all.append(' ').append(t.instancesOf(k));
        }
        all.append(" holds ").append(t.holds()).append(" tables ").append(told(tables(t)));
        all.append(" least ").append(told(least(t))).append(" greatest ").append(told(greatest(t)));
        all.append(" forced");
        for (int atom = 0; atom <= 12; atom++) {
            all.append(' ').append(told(forced(t, atom)));
        }
        all.append(" without");
        for (int k = 0; k <= 12; k++) {
            all.append(' ').append(told(without(t, k)));
        }
        all.append(" core");
        for (int sum = -1; sum <= 32; sum++) {
            all.append(' ').append(told(core(t, sum)));
        }
        return all.toString();
    }

    /** The method that main called: above it stands the sentence of the document that is broken. */
    private static String testMethod() {
        return StackWalker.getInstance().walk(frames -> frames
            .map(StackWalker.StackFrame::getMethodName)
            .takeWhile(name -> !name.equals("main"))
            .reduce("", (inner, outer) -> outer));
    }

    private static long codeOf(Class<?> kind) {
        if (kind == IllegalArgumentException.class) {
            return ILLEGAL_ARGUMENT;
        }
        if (kind == IllegalStateException.class) {
            return ILLEGAL_STATE;
        }
        if (kind == IndexOutOfBoundsException.class) {
            return OUT_OF_BOUNDS;
        }
        return kind == NoSuchElementException.class ? NO_ELEMENT : OTHER;
    }

    private static String told(long answer) {
        if (answer > ILLEGAL_ARGUMENT || answer < OTHER) {
            return Long.toString(answer);
        }
        String[] names = {"IllegalArgument", "IllegalState", "IndexOutOfBounds", "NoSuchElement", "another"};
        return "throws " + names[(int) (ILLEGAL_ARGUMENT - answer)];
    }
}
