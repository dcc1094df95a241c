/** One method for each promise of the document: ordinary inputs, the named edges, wrong inputs. */
public final class PromiseTests extends Checks {
    public static void main(String[] args) {
        promise1NewObject();
        promise2Type();
        promise2TypeAtTheLimit();
        promise3Erase();
        promise4Read();
        promise4FailedReadChangesNothing();
        promise5Fault();
        promise5FaultOfLimits();
        promise5FaultOfAtoms();
        promise6Clauses();
        promise7Atoms();
        promise8Atom();
        promise9Instances();
        promise10InstancesOf();
        promise11Holds();
        promise12Tables();
        promise13Least();
        promise14Greatest();
        promise15Forced();
        promise16Without();
        promise17Core();
        end();
    }

    private static void promise1NewObject() {
        HerbrandTables t = new HerbrandTables();
        due("1 NONE", HerbrandTables.NONE, -1);
        due("1 fault", t.fault(), -1);
        due("1 clauses", t.clauses(), 0);
        due("1 atoms", t.atoms(), 0);
        due("1 instances", t.instances(), 0);
        due("1 instancesOf", t.instancesOf(0), -1);
        due("1 atom", t.atom(0, 0, 0), -1);
        due("1 holds", t.holds(), 1);
        due("1 erase", t.erase(), 0);
    }

    private static void promise2Type() {
        HerbrandTables t = new HerbrandTables();
        due("2 nothing", t.type(0L), 1);
        due("2 nothing before the first 0", t.type(0x5000L), 1);
        due("2 still empty", t.erase(), 0);
        due("2 eight", t.type(row("Pa&Qb|Ra")), 1);
        due("2 eight are there", t.erase(), 8);
        due("2 a wrong one behind a 0 is not looked at", t.type(0x2000_0050L), 1);
        due("2 one is there", t.erase(), 1);
        due("2 lowest 33", t.type(33L), 1);
        due("2 highest 126", t.type(126L), 1);
        due("2 below", t.type(32L), 0);
        due("2 above", t.type(127L), 0);
        due("2 a wrong one behind good ones", t.type(0x2050_5050L), 0);
        due("2 eighth is above 127", t.type(0xFF50_5050_5050_5050L), 0);
        due("2 all bits", t.type(-1L), 0);
        due("2 nothing was put by refused rows", t.erase(), 2);
        t.type(row("P"));
        t.type(row("a&Q"));
        due("2 rows follow one another", read(t), 2);
        due("2 lowest bits come first", t.atom(0, 0, 0), 0);
    }

    private static void promise2TypeAtTheLimit() {
        HerbrandTables t = new HerbrandTables();
        for (int i = 0; i < 11; i++) {
            t.type(row("PPPPPPPP"));
        }
        t.type(row("PPPPP"));
        due("2 there are 93, four more are refused", t.type(row("QQQQ")), 0);
        due("2 three more are not", t.type(row("QQQ")), 1);
        due("2 there are 96, one more is refused", t.type(row("R")), 0);
        due("2 none more is not", t.type(0L), 1);
        due("2 96 are there", t.erase(), 96);
        due("2 there is room again", t.type(row("R")), 1);
    }

    private static void promise3Erase() {
        HerbrandTables t = sentence("Pa&Qb");
        due("3 a read text is gone", t.erase(), 0);
        t.type(row("Pabcd"));
        due("3 five", t.erase(), 5);
        due("3 none", t.erase(), 0);
        due("3 the sentence stays", t.clauses(), 2);
        due("3 fault stays", t.fault(), -1);
    }

    private static void promise4Read() {
        HerbrandTables t = new HerbrandTables();
        type(t, "Px|Qy&Pa&Pb");
        due("4 instances", read(t), 6);
        due("4 no characters then", t.erase(), 0);
        type(t, "R");
        due("4 another in its place", read(t), 1);
        due("4 clauses of the new one", t.clauses(), 1);
        due("4 atoms of the new one", t.atoms(), 1);
        due("4 predicates of the old one are gone", t.atom(0, 0, 0), -1);
        due("4 tables of the new one", t.tables(), 1);
        type(t, "P|P|P|P&P|P|P|P&P|P|P|P&P|P|P|P&P|P|P|P&P|P|P|P&P|P|P|P&P|P|P|P&P|P|P|P&P|P|P|P&P|P|P|P&P|P|P|P");
        due("4 12 clauses of 4 literals", read(t), 1);
        due("4 12 clauses", t.clauses(), 12);
        type(t, "Pab|Pxy|Pyx|Pza&".repeat(5));
        type(t, "Pab|Pxy|Pyx|-Pza");
        due("4 a text of 96 characters is full", t.type(row("&")), 0);
        due("4 a text of 96 characters", read(t), 9);
        type(t, "Pab|Pxy|Pyx|Pza&".repeat(5));
        type(t, "Pab|Pxy|-Pyx|-Pz");
        due("4 a text of 96 characters that ends too early", read(t), ILLEGAL_ARGUMENT);
        due("4 its fault", t.fault(), 96);
        due("4 predicates may have no arguments", readNew("P&-Q"), 2);
    }

    private static void promise4FailedReadChangesNothing() {
        HerbrandTables t = sentence("-Pxa|Qx&Pba&-Qb");
        type(t, "Rabc");
        due("4 no sentence", read(t), ILLEGAL_ARGUMENT);
        due("4 the same text again", read(t), ILLEGAL_ARGUMENT);
        due("4 fault tells of it", t.fault(), 3);
        due("4 clauses as before", t.clauses(), 3);
        due("4 atoms as before", t.atoms(), 6);
        due("4 instances as before", t.instances(), 4);
        due("4 own instances as before", t.instancesOf(0), 2);
        due("4 tables as before", t.tables(), 0);
        due("4 without as before", t.without(1), 1);
        due("4 atom as before", t.atom(2, 0, 0), -1);
        due("4 the text as before", t.erase(), 4);
    }

    private static void promise5Fault() {
        due("5 empty", faultOf(""), 0);
        due("5 none", faultOf("-Pxa|Qx&Pba&-Qb"), -1);
        due("5 no predicate", faultOf("T"), 0);
        due("5 O is before P", faultOf("O"), 0);
        due("5 argument first", faultOf("aP"), 0);
        due("5 joint first", faultOf("&P"), 0);
        due("5 minus alone", faultOf("-"), 1);
        due("5 two minuses", faultOf("--P"), 1);
        due("5 minus behind a predicate", faultOf("P-"), 1);
        due("5 joint behind a minus", faultOf("P|-&P"), 3);
        due("5 ends behind &", faultOf("Pa&"), 3);
        due("5 ends behind |", faultOf("Pa|"), 3);
        due("5 two joints", faultOf("Pa&|Pa"), 3);
        due("5 no argument d", faultOf("Pd"), 1);
        due("5 no argument w", faultOf("Paw"), 2);
        due("5 a predicate behind a literal", faultOf("PaQ"), 2);
        due("5 a third argument", faultOf("Pxyz"), 3);
        due("5 one more than the predicate has", faultOf("Px|Qxx|-Pxy"), 10);
        due("5 one more than none", faultOf("P&Pa"), 3);
        due("5 one is missing before &", faultOf("Pxy&Px&Q"), 6);
        due("5 one is missing at the end", faultOf("Pxy&Px"), 6);
        due("5 both are missing", faultOf("Pxy&P"), 5);
        due("5 a wrong character where one is missing", faultOf("Pxy&Px!"), 6);
        HerbrandTables t = new HerbrandTables();
        type(t, "Pa|");
        read(t);
        due("5 of a failed read", t.fault(), 3);
        t.erase();
        due("5 erase leaves it", t.fault(), 3);
        type(t, "P");
        due("5 type leaves it", t.fault(), 3);
        read(t);
        due("5 none after a read that found none", t.fault(), -1);
    }

    private static void promise5FaultOfLimits() {
        due("5 the 5th literal", faultOf("P|Q|R|S|P"), 7);
        due("5 the 5th literal's joint at the end", faultOf("P|Q|R|S|"), 7);
        due("5 the 5th literal of a later clause", faultOf("P|Q&P|Q|R|-S|P"), 12);
        due("5 four literals", faultOf("P|Q|R|S&P|Q|R|S"), -1);
        due("5 the 13th clause", faultOf("P&P&P&P&P&P&P&P&P&P&P&P&P"), 23);
        due("5 12 clauses", faultOf("P&P&P&P&P&P&P&P&P&P&P&P"), -1);
        due("5 the 12th clause's 5th literal", faultOf("P&P&P&P&P&P&P&P&P&P&P&P|P|P|P|P"), 29);
        due("5 behind 48 literals", faultOf("P|P|P|P&".repeat(12)), 95);
    }

    private static void promise5FaultOfAtoms() {
        due("5 twelve atoms", faultOf("Pab&Qab&Rab"), -1);
        due("5 a predicate too many, at the end", faultOf("Pab&Qab&Rab&Sab"), 15);
        due("5 a predicate too many, before more", faultOf("Pab&Qab&Rab&Sx|Pxx"), 14);
        due("5 a predicate too many, without arguments", faultOf("Pab&Qab&Rab&S|Pab"), 13);
        due("5 a predicate too many, before a third argument", faultOf("Pab&Qab&Rab&Sxyz"), 15);
        due("5 a constant too many", faultOf("Pxy&Qxy&Rc&Rb&Ra"), 15);
        due("5 a constant too many as first argument", faultOf("Pxy&Qab&Pcx"), 9);
        due("5 a constant too many in a new predicate", faultOf("Pxy&Qab&Rcx"), 9);
        due("5 a new predicate is reckoned behind its arguments", faultOf("Pxy&Qc&Rab"), 10);
        due("5 variables alone make one thing", faultOf("Pxy&Qxy&Rxy&Sxy"), -1);
        due("5 one constant makes one thing", faultOf("Pxc&Qxy&Rxy&Scc"), -1);
        due("5 the second constant", faultOf("Pxc&Qxy&Rxy&Sxy&Pca"), 18);
        due("5 the same constant again", faultOf("Pab&Qab&Rab&Pba|Qaa"), -1);
        due("5 nine and three", faultOf("Pab&Qc"), -1);
        due("5 nine, three and one", faultOf("Pab&Qc&R"), 8);
    }

    private static void promise6Clauses() {
        due("6 one", sentence("P|Q|R").clauses(), 1);
        due("6 the same one again counts", sentence("P&P&P").clauses(), 3);
        due("6 one without instances counts", sentence("P|-P&Q").clauses(), 2);
    }

    private static void promise7Atoms() {
        due("7 no constant", sentence("Pxy|Qx|R").atoms(), 3);
        due("7 two constants", sentence("Pxy|Qc|R&Qa").atoms(), 7);
        due("7 three constants", sentence("Pxy|Qc&Qa&Qb").atoms(), 12);
    }

    private static void promise8Atom() {
        HerbrandTables t = sentence("Sxc|Qx|R&Qa");
        due("8 P does not stand there", t.atom(0, 0, 0), -1);
        due("8 Qa", t.atom(1, 0, 1), 0);
        due("8 Qb", t.atom(1, 1, 0), -1);
        due("8 Qc", t.atom(1, 2, -7), 1);
        due("8 R looks at no argument", t.atom(2, 77, -77), 2);
        due("8 Saa", t.atom(3, 0, 0), 3);
        due("8 Sac", t.atom(3, 0, 2), 4);
        due("8 Sca", t.atom(3, 2, 0), 5);
        due("8 Scc", t.atom(3, 2, 2), 6);
        due("8 Sab", t.atom(3, 0, 1), -1);
        due("8 Sba", t.atom(3, 1, 0), -1);
        due("8 no second argument 3", t.atom(3, 0, 3), -1);
        due("8 no second argument -1", t.atom(3, 0, -1), -1);
        due("8 no first argument 3", t.atom(1, 3, 0), -1);
        due("8 no first argument 32", t.atom(1, 32, 0), -1);
        due("8 no least first argument", t.atom(1, Integer.MIN_VALUE, 0), -1);
        due("8 no greatest first argument", t.atom(1, Integer.MAX_VALUE, 0), -1);
        due("8 no predicate 4", t.atom(4, 0, 0), -1);
        due("8 no predicate -1", t.atom(-1, 0, 0), -1);
        due("8 no least predicate", t.atom(Integer.MIN_VALUE, 0, 0), -1);
        due("8 no greatest predicate", t.atom(Integer.MAX_VALUE, 0, 0), -1);
        HerbrandTables none = sentence("Pxy");
        due("8 without constants a is a thing", none.atom(0, 0, 0), 0);
        due("8 and b is none", none.atom(0, 0, 1), -1);
    }

    private static void promise9Instances() {
        due("9 one for each thing", sentence("Px|Qa&Qb").instances(), 3);
        due("9 the same sets of one clause", sentence("Px|Py&Qa&Qb").instances(), 5);
        due("9 the same sets of two clauses", sentence("Px&Pa&Qb").instances(), 3);
        due("9 the order of literals is nothing", sentence("P|Q&Q|P").instances(), 1);
        due("9 a literal twice is nothing", sentence("P|P&P").instances(), 1);
        due("9 true is not false", sentence("P&-P").instances(), 2);
        due("9 left out", sentence("Px|-Py&Qa&Qb").instances(), 4);
        due("9 three variables and three things", sentence("Pxy|Qz&Qa|Qb&Qc").instances(), 29);
    }

    private static void promise10InstancesOf() {
        HerbrandTables t = sentence("Pa&Px&Px|Py&Px|-Py&Qb|Qx");
        due("10 a constant alone", t.instancesOf(0), 1);
        due("10 counted though another clause has it", t.instancesOf(1), 2);
        due("10 the same set once", t.instancesOf(2), 3);
        due("10 left out", t.instancesOf(3), 2);
        due("10 a constant and a variable", t.instancesOf(4), 2);
        due("10 no clause 5", t.instancesOf(5), -1);
        due("10 no clause -1", t.instancesOf(-1), -1);
        due("10 no least clause", t.instancesOf(Integer.MIN_VALUE), -1);
        due("10 no greatest clause", t.instancesOf(Integer.MAX_VALUE), -1);
        due("10 none is left", sentence("P|-P").instancesOf(0), 0);
        due("10 most", sentence("Pxy|Qz&Qa|Qb&Qc").instancesOf(0), 27);
    }

    private static void promise11Holds() {
        due("11 holds", sentence("Px|Qx&-Pa&-Qb").holds(), 1);
        due("11 holds in none", sentence("Px|Qx&-Pa&-Qb&-Qa").holds(), 0);
        due("11 without instances", sentence("Px|-Px").holds(), 1);
    }

    private static void promise12Tables() {
        HerbrandTables t = new HerbrandTables();
        due("12 no sentence", tables(t), ILLEGAL_STATE);
        due("12 none", sentence("P&-P").tables(), 0);
        due("12 one atom", sentence("P|-P").tables(), 2);
        due("12 five atoms", sentence("Pa|Pb|Qab&Pa|-Pa").tables(), 56);
        due("12 six atoms", sentence("Qab|-Qab|Pa").tables(), 64);
        due("12 twelve atoms", sentence("Pab|-Pab&Qc|-Qc").tables(), 4096);
        due("12 half of them", sentence("Pab&Qc|-Qc").tables(), 2048);
    }

    private static void promise13Least() {
        HerbrandTables t = new HerbrandTables();
        due("13 no sentence", least(t), ILLEGAL_STATE);
        HerbrandTables none = sentence("P&-P");
        due("13 holds in none", least(none), NO_ELEMENT);
        due("13 all false", sentence("P|-Q").least(), 0);
        due("13 the first atom is false rather than the last", sentence("P|Q").least(), 2);
        due("13 of twelve", sentence("Pab|Pbc&Qx|-Pxy").least(), 1056);
    }

    private static void promise14Greatest() {
        HerbrandTables t = new HerbrandTables();
        due("14 no sentence", greatest(t), ILLEGAL_STATE);
        HerbrandTables none = sentence("P&-P");
        due("14 holds in none", greatest(none), NO_ELEMENT);
        due("14 all true", sentence("P|-Q").greatest(), 3);
        due("14 the first atom is true rather than the last", sentence("-P|-Q").greatest(), 1);
        due("14 of twelve", sentence("-Pab|-Pbc&-Qx|-Pxx").greatest(), 479);
    }

    private static void promise15Forced() {
        HerbrandTables t = new HerbrandTables();
        due("15 no sentence comes first", forced(t, -1), ILLEGAL_STATE);
        HerbrandTables some = sentence("Px&Px|Qa&-Qb");
        due("15 to be true", forced(some, 0), 1);
        due("15 to be true for the other thing", forced(some, 1), 1);
        due("15 not", forced(some, 2), 2);
        due("15 to be false", forced(some, 3), 0);
        due("15 no atom 4", forced(some, 4), OUT_OF_BOUNDS);
        due("15 no atom -1", forced(some, -1), OUT_OF_BOUNDS);
        due("15 no least atom", forced(some, Integer.MIN_VALUE), OUT_OF_BOUNDS);
        due("15 no greatest atom", forced(some, Integer.MAX_VALUE), OUT_OF_BOUNDS);
        HerbrandTables none = sentence("P&-P");
        due("15 holds in none", forced(none, 0), NO_ELEMENT);
        due("15 no such atom comes before that", forced(none, 1), OUT_OF_BOUNDS);
        HerbrandTables large = sentence("Pxy|-Pxy&Qa&-Pcc&Qb|Qc");
        due("15 the ninth of twelve", forced(large, 8), 0);
        due("15 the tenth", forced(large, 9), 1);
        due("15 the first", forced(large, 0), 2);
    }

    private static void promise16Without() {
        HerbrandTables t = new HerbrandTables();
        due("16 no sentence comes first", without(t, -1), ILLEGAL_STATE);
        HerbrandTables some = sentence("P&-P&Q");
        due("16 the first", without(some, 0), 1);
        due("16 the second", without(some, 1), 1);
        due("16 the third", without(some, 2), 0);
        due("16 no clause 3", without(some, 3), OUT_OF_BOUNDS);
        due("16 no clause -1", without(some, -1), OUT_OF_BOUNDS);
        due("16 no clause 32", without(some, 32), OUT_OF_BOUNDS);
        due("16 no least clause", without(some, Integer.MIN_VALUE), OUT_OF_BOUNDS);
        due("16 the only one", sentence("P").without(0), 1);
        due("16 the same instance is in another clause", sentence("Px&Pa&-Pa").without(1), 0);
        due("16 the things stay though their clause goes", sentence("Px|Qx&-Px&-Qb&Qa").without(3), 0);
        due("16 twelfth clause", sentence("P&P&P&P&P&P&P&P&P&P&P&-P").without(11), 1);
    }

    private static void promise17Core() {
        HerbrandTables t = new HerbrandTables();
        due("17 no sentence comes first", core(t, -1), ILLEGAL_STATE);
        HerbrandTables some = sentence("P&-P&Q&P");
        due("17 none can hold together", core(some, 0), 0);
        due("17 one", core(some, 1), 0);
        due("17 two", core(some, 3), 1);
        due("17 two others", core(some, 10), 1);
        due("17 one that is not needed", core(some, 7), 0);
        due("17 the same clause twice", core(some, 11), 0);
        due("17 they can hold", core(some, 5), 0);
        due("17 all", core(some, 15), 0);
        due("17 another clause", core(some, 16), OUT_OF_BOUNDS);
        due("17 another clause too", core(some, 19), OUT_OF_BOUNDS);
        due("17 below 0", core(some, -1), OUT_OF_BOUNDS);
        due("17 least", core(some, Integer.MIN_VALUE), OUT_OF_BOUNDS);
        due("17 greatest", core(some, Integer.MAX_VALUE), OUT_OF_BOUNDS);
        due("17 three", core(sentence("Px|Qx&-Pa&-Qx"), 7), 1);
        HerbrandTables most = sentence("P&P&P&P&P&P&P&P&P&P&P&-P");
        due("17 the last two of twelve", core(most, 3072), 1);
        due("17 all of twelve", core(most, 4095), 0);
        due("17 a thirteenth", core(most, 4096), OUT_OF_BOUNDS);
    }
}
