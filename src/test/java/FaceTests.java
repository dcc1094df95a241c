import java.lang.reflect.Constructor;
import java.lang.reflect.Field;
import java.lang.reflect.Method;
import java.lang.reflect.Modifier;
import java.util.Set;
import java.util.TreeSet;

/** The class has the members of the document's face, and shows no other. */
public final class FaceTests {
    private static final Set<String> FACE = new TreeSet<>(Set.of(
        "public static final int HerbrandTables.NONE",
        "public HerbrandTables()",
        "public boolean HerbrandTables.type(long)",
        "public int HerbrandTables.erase()",
        "public int HerbrandTables.read() throws java.lang.IllegalArgumentException",
        "public int HerbrandTables.fault()",
        "public int HerbrandTables.clauses()",
        "public int HerbrandTables.atoms()",
        "public int HerbrandTables.atom(int,int,int)",
        "public int HerbrandTables.instances()",
        "public int HerbrandTables.instancesOf(int)",
        "public boolean HerbrandTables.holds()",
        "public int HerbrandTables.tables() throws java.lang.IllegalStateException",
        "public int HerbrandTables.least() throws java.lang.IllegalStateException,java.util.NoSuchElementException",
        "public int HerbrandTables.greatest() throws java.lang.IllegalStateException,java.util.NoSuchElementException",
        "public int HerbrandTables.forced(int) throws java.lang.IllegalStateException,"
            + "java.lang.IndexOutOfBoundsException,java.util.NoSuchElementException",
        "public boolean HerbrandTables.without(int) throws java.lang.IllegalStateException,"
            + "java.lang.IndexOutOfBoundsException",
        "public boolean HerbrandTables.core(int) throws java.lang.IllegalStateException,"
            + "java.lang.IndexOutOfBoundsException"));

    public static void main(String[] args) {
        Set<String> shown = new TreeSet<>();
        for (Field field : HerbrandTables.class.getDeclaredFields()) {
            if (!Modifier.isPrivate(field.getModifiers())) {
                shown.add(field.toString());
            }
        }
        for (Constructor<?> constructor : HerbrandTables.class.getDeclaredConstructors()) {
            shown.add(constructor.toString());
        }
        Set<String> publicNames = new TreeSet<>();
        for (Method method : HerbrandTables.class.getDeclaredMethods()) {
            if (!Modifier.isPrivate(method.getModifiers())) {
                shown.add(method.toString());
                publicNames.add(method.getName());
            }
        }
        boolean good = shown.equals(FACE) && Modifier.isFinal(HerbrandTables.class.getModifiers());
        if (!shown.equals(FACE)) {
            System.out.println("shown: " + shown);
            System.out.println("due:   " + FACE);
        }
        for (Class<?> inside : HerbrandTables.class.getDeclaredClasses()) {
            good &= isWellHidden(inside, publicNames);
        }
        System.out.println(good ? "the face is as due" : "the face is not as due");
        if (!good) {
            System.exit(1);
        }
    }

    private static boolean isWellHidden(Class<?> inside, Set<String> publicNames) {
        int modifiers = inside.getModifiers();
        boolean good = Modifier.isStatic(modifiers)
            && !Modifier.isPublic(modifiers) && !Modifier.isProtected(modifiers);
        for (Method method : inside.getDeclaredMethods()) {
            good &= !publicNames.contains(method.getName());
        }
        if (!good) {
            System.out.println(inside + " shows too much, or has a method with a public one's name");
        }
        return good;
    }
}
