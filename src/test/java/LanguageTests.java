import com.sun.source.tree.AssertTree;
import com.sun.source.tree.BinaryTree;
import com.sun.source.tree.BlockTree;
import com.sun.source.tree.ClassTree;
import com.sun.source.tree.CompilationUnitTree;
import com.sun.source.tree.CompoundAssignmentTree;
import com.sun.source.tree.ImportTree;
import com.sun.source.tree.InstanceOfTree;
import com.sun.source.tree.LambdaExpressionTree;
import com.sun.source.tree.MemberReferenceTree;
import com.sun.source.tree.MethodInvocationTree;
import com.sun.source.tree.MethodTree;
import com.sun.source.tree.NewArrayTree;
import com.sun.source.tree.NewClassTree;
import com.sun.source.tree.SynchronizedTree;
import com.sun.source.tree.ThrowTree;
import com.sun.source.tree.Tree;
import com.sun.source.tree.TryTree;
import com.sun.source.tree.TypeCastTree;
import com.sun.source.tree.VariableTree;
import com.sun.source.util.JavacTask;
import com.sun.source.util.SourcePositions;
import com.sun.source.util.TreePath;
import com.sun.source.util.TreePathScanner;
import com.sun.source.util.Trees;
import java.io.File;
import java.util.ArrayList;
import java.util.List;
import java.util.Map;
import java.util.Set;
import java.util.TreeMap;
import java.util.TreeSet;
import javax.lang.model.element.Element;
import javax.lang.model.element.ExecutableElement;
import javax.lang.model.element.Modifier;
import javax.lang.model.element.TypeElement;
import javax.lang.model.type.TypeKind;
import javax.lang.model.type.TypeMirror;
import javax.tools.JavaCompiler;
import javax.tools.StandardJavaFileManager;
import javax.tools.ToolProvider;

/**
 * Looks through the source of the class for what ../shared/LANGUAGE.md does not leave, as far as a
 * program can see it. It is narrower than those rules where the class needs less than they leave: objects
 * are made in constructors alone, and nothing calls itself. That no index is wrong and each loop ends (rules
 * 7 and 9) is left to reading; the face (rule 1) is looked at by FaceTests.
 */
public final class LanguageTests {
    private static final String SOURCE = "src/main/java/HerbrandTables.java";
    private static final int MOST_PARAMETERS = 7;
    private static final int MOST_LINES = 60;
    private static final int MOST_DEPTH = 8;
    private static final int MOST_CLASSES = 12;
    private static final int MOST_FIELDS = 20;

    private static final String CONSTRUCTOR = "<init>";

    private static final Set<String> IMPORTS = Set.of("java.util.Arrays", "java.util.NoSuchElementException");
    private static final Set<String> LIBRARY = Set.of(
        "java.lang.Math.max", "java.lang.Integer.bitCount", "java.lang.Long.bitCount",
        "java.lang.System.arraycopy", "java.util.Arrays.fill");
    private static final Set<String> EXCEPTIONS = Set.of(
        "java.lang.IllegalStateException", "java.lang.IllegalArgumentException",
        "java.lang.IndexOutOfBoundsException", "java.util.NoSuchElementException");
    private static final Set<String> CONSTANTS = Set.of(
        "int", "long", "boolean", "char", "java.lang.String", "int[]", "long[]", "char[]", "byte[]");
    private static final Set<String> NUMBERS = Set.of("int", "long", "short", "byte", "char", "boolean");

    private static final List<String> breaches = new ArrayList<>();
    private static final Map<String, Set<String>> calls = new TreeMap<>();
    private static int methods = 0;
    private static int classes = 0;

    public static void main(String[] args) throws Exception {
        JavaCompiler compiler = ToolProvider.getSystemJavaCompiler();
        try (StandardJavaFileManager files = compiler.getStandardFileManager(null, null, null)) {
            JavacTask task = (JavacTask) compiler.getTask(null, files, null, List.of("-proc:none"), null,
                files.getJavaFileObjects(new File(SOURCE)));
            Iterable<? extends CompilationUnitTree> units = task.parse();
            task.analyze();
            for (CompilationUnitTree unit : units) {
                new Look(unit, Trees.instance(task)).scan(unit, null);
            }
        }
        expect(classes <= MOST_CLASSES, "rule 11: " + classes + " classes");
        for (String method : calls.keySet()) {
            int depth = depthOf(method, new ArrayList<>());
            expect(depth <= MOST_DEPTH, "rule 11: calls from " + method + " go " + depth + " deep");
        }
        breaches.forEach(System.out::println);
        System.out.println(classes + " classes, " + methods + " methods, " + breaches.size() + " breaches of LANGUAGE.md");
        if (!breaches.isEmpty() || methods == 0) {
            System.exit(1);
        }
    }

    private static void expect(boolean kept, String breach) {
        if (!kept) {
            breaches.add(breach);
        }
    }

    /** How many calls stand open at once, the first one with them. */
    private static int depthOf(String method, List<String> open) {
        if (open.contains(method)) {
            breaches.add("rule 8: " + method + " calls itself by " + open);
            return 0;
        }
        open.add(method);
        int deepest = 0;
        for (String called : calls.getOrDefault(method, Set.of())) {
            deepest = Math.max(deepest, depthOf(called, open));
        }
        open.remove(method);
        return deepest + 1;
    }

    private static final class Look extends TreePathScanner<Void, Void> {
        private final CompilationUnitTree unit;
        private final Trees trees;

        Look(CompilationUnitTree unit, Trees trees) {
            this.unit = unit;
            this.trees = trees;
            expect(unit.getPackage() == null, "there is a package line");
            expect(unit.getTypeDecls().size() == 1, "there is more than one class outside");
        }

        @Override
        public Void visitImport(ImportTree tree, Void none) {
            String name = tree.getQualifiedIdentifier().toString();
            breach(!tree.isStatic() && IMPORTS.contains(name), 4, tree, "import of " + name);
            return super.visitImport(tree, none);
        }

        @Override
        public Void visitClass(ClassTree tree, Void none) {
            classes++;
            Element element = element();
            boolean outer = getCurrentPath().getParentPath().getLeaf() == unit;
            Set<Modifier> modifiers = element.getModifiers();
            breach(modifiers.contains(Modifier.FINAL), 1, tree, "a class that is not final");
            breach(outer == modifiers.contains(Modifier.PUBLIC), 1, tree, "a class inside that is public");
            breach(outer != modifiers.contains(Modifier.STATIC), 1, tree, "a class inside that is not static");
            breach(outer || element.getEnclosingElement() instanceof TypeElement, 2, tree, "a local class");
            long fields = tree.getMembers().stream().filter(member -> member instanceof VariableTree
                && !((VariableTree) member).getModifiers().getFlags().contains(Modifier.STATIC)).count();
            breach(fields <= MOST_FIELDS, 11, tree, fields + " fields");
            for (Tree member : tree.getMembers()) {
                breach(!(member instanceof BlockTree), 5, member, "a block outside methods");
            }
            return super.visitClass(tree, none);
        }

        @Override
        public Void visitMethod(MethodTree tree, Void none) {
            methods++;
            calls.computeIfAbsent(nameOf((ExecutableElement) element()), name -> new TreeSet<>());
            SourcePositions positions = trees.getSourcePositions();
            long lines = lineAt(positions.getEndPosition(unit, tree)) - lineAt(positions.getStartPosition(unit, tree)) + 1;
            breach(tree.getParameters().size() <= MOST_PARAMETERS, 11, tree, "too many parameters");
            breach(lines <= MOST_LINES, 11, tree, "a method of " + lines + " lines");
            breach(!tree.getModifiers().getFlags().contains(Modifier.SYNCHRONIZED), 6, tree, "synchronized");
            return super.visitMethod(tree, none);
        }

        @Override
        public Void visitVariable(VariableTree tree, Void none) {
            TypeMirror type = element().asType();
            breach(isLeft(type), 3, tree, "the type " + type);
            Set<Modifier> modifiers = element().getModifiers();
            if (modifiers.contains(Modifier.STATIC)) {
                breach(modifiers.contains(Modifier.FINAL), 5, tree, "static and not final");
                breach(CONSTANTS.contains(type.toString()), 5, tree, "a constant of type " + type);
                boolean writtenOut = !(tree.getInitializer() instanceof NewArrayTree)
                    || ((NewArrayTree) tree.getInitializer()).getInitializers() != null;
                breach(writtenOut, 5, tree, "an array that is not written out");
            }
            return super.visitVariable(tree, none);
        }

        @Override
        public Void visitMethodInvocation(MethodInvocationTree tree, Void none) {
            addCall((ExecutableElement) element(), tree);
            return super.visitMethodInvocation(tree, none);
        }

        @Override
        public Void visitNewClass(NewClassTree tree, Void none) {
            boolean thrown = getCurrentPath().getParentPath().getLeaf() instanceof ThrowTree;
            if (thrown) {
                String kind = trees.getTypeMirror(getCurrentPath()).toString();
                breach(EXCEPTIONS.contains(kind), 6, tree, "a throw of " + kind);
            } else {
                addCall((ExecutableElement) element(), tree);
                breach(isInConstructor(), 12, tree, "an object made by a call");
            }
            breach(tree.getClassBody() == null, 2, tree, "an anonymous class");
            return super.visitNewClass(tree, none);
        }

        @Override
        public Void visitNewArray(NewArrayTree tree, Void none) {
            breach(isInConstructor(), 12, tree, "a row made by a call");
            return super.visitNewArray(tree, none);
        }

        @Override
        public Void visitThrow(ThrowTree tree, Void none) {
            breach(tree.getExpression() instanceof NewClassTree, 6, tree, "a throw without new");
            breach(!isInConstructor(), 6, tree, "a throw in a constructor");
            return super.visitThrow(tree, none);
        }

        @Override
        public Void visitBinary(BinaryTree tree, Void none) {
            breach(!isText(trees.getTypeMirror(getCurrentPath())), 10, tree, "texts joined by +");
            return super.visitBinary(tree, none);
        }

        @Override
        public Void visitCompoundAssignment(CompoundAssignmentTree tree, Void none) {
            breach(!isText(trees.getTypeMirror(getCurrentPath())), 10, tree, "texts joined by +=");
            return super.visitCompoundAssignment(tree, none);
        }

        @Override
        public Void visitTypeCast(TypeCastTree tree, Void none) {
            breach(trees.getTypeMirror(getCurrentPath()).getKind().isPrimitive(), 6, tree, "a cast of objects");
            return super.visitTypeCast(tree, none);
        }

        @Override
        public Void visitInstanceOf(InstanceOfTree tree, Void none) {
            return refuse(6, tree, "instanceof, which the class needs nowhere");
        }

        @Override
        public Void visitLambdaExpression(LambdaExpressionTree tree, Void none) {
            return refuse(2, tree, "a lambda");
        }

        @Override
        public Void visitMemberReference(MemberReferenceTree tree, Void none) {
            return refuse(2, tree, "a method reference");
        }

        @Override
        public Void visitTry(TryTree tree, Void none) {
            return refuse(6, tree, "a try, which the class needs nowhere");
        }

        @Override
        public Void visitSynchronized(SynchronizedTree tree, Void none) {
            return refuse(6, tree, "synchronized");
        }

        @Override
        public Void visitAssert(AssertTree tree, Void none) {
            return refuse(6, tree, "an assert");
        }

        private void addCall(ExecutableElement called, Tree tree) {
            String name = nameOf(called);
            if (isOwn((TypeElement) called.getEnclosingElement())) {
                String caller = callerName();
                calls.computeIfAbsent(caller, from -> new TreeSet<>()).add(name);
                return;
            }
            String plain = called.getEnclosingElement() + "." + called.getSimpleName();
            boolean superCall = plain.equals("java.lang.Object." + CONSTRUCTOR);
            breach(superCall || LIBRARY.contains(plain), 4, tree, "a call of " + plain);
        }

        /** A field's initialiser belongs to the constructor. */
        private String callerName() {
            TreePath path = getCurrentPath();
            while (!(path.getLeaf() instanceof MethodTree) && !(path.getLeaf() instanceof ClassTree)) {
                path = path.getParentPath();
            }
            Element caller = trees.getElement(path);
            return caller instanceof TypeElement ? constructorOf((TypeElement) caller) : nameOf((ExecutableElement) caller);
        }

        private String constructorOf(TypeElement type) {
            for (Element member : type.getEnclosedElements()) {
                if (member.getSimpleName().contentEquals(CONSTRUCTOR)) {
                    return nameOf((ExecutableElement) member);
                }
            }
            throw new IllegalStateException("a class without a constructor");
        }

        private boolean isInConstructor() {
            return callerName().contains("." + CONSTRUCTOR);
        }

        private Void refuse(int rule, Tree tree, String what) {
            breach(false, rule, tree, what);
            return null;
        }

        private void breach(boolean kept, int rule, Tree tree, String what) {
            long line = lineAt(trees.getSourcePositions().getStartPosition(unit, tree));
            expect(kept, "rule " + rule + ", line " + line + ": " + what);
        }

        private long lineAt(long position) {
            return position < 0 ? 0 : unit.getLineMap().getLineNumber(position);
        }

        private Element element() {
            return trees.getElement(getCurrentPath());
        }

        /** Numbers, own classes, and rows of one dimension of these. */
        private boolean isLeft(TypeMirror type) {
            String name = type.toString().replaceFirst("\\[\\]$", "");
            return NUMBERS.contains(name) || name.startsWith("HerbrandTables");
        }

        private boolean isText(TypeMirror type) {
            return type.getKind() == TypeKind.DECLARED && type.toString().equals("java.lang.String");
        }

        private boolean isOwn(TypeElement type) {
            return type.getQualifiedName().toString().startsWith("HerbrandTables");
        }

        private String nameOf(ExecutableElement method) {
            return method.getEnclosingElement() + "." + method.getSimpleName() + method.asType();
        }
    }
}
