import com.sun.source.tree.AssertTree;
import com.sun.source.tree.BinaryTree;
import com.sun.source.tree.BlockTree;
import com.sun.source.tree.ClassTree;
import com.sun.source.tree.CompilationUnitTree;
import com.sun.source.tree.ImportTree;
import com.sun.source.tree.LambdaExpressionTree;
import com.sun.source.tree.LiteralTree;
import com.sun.source.tree.MemberReferenceTree;
import com.sun.source.tree.MethodInvocationTree;
import com.sun.source.tree.MethodTree;
import com.sun.source.tree.NewArrayTree;
import com.sun.source.tree.NewClassTree;
import com.sun.source.tree.SynchronizedTree;
import com.sun.source.tree.ThrowTree;
import com.sun.source.tree.Tree;
import com.sun.source.tree.TryTree;
import com.sun.source.tree.TypeCastTree;
import com.sun.source.tree.VariableTree;
import com.sun.source.util.JavacTask;
import com.sun.source.util.TreePath;
import com.sun.source.util.TreePathScanner;
import com.sun.source.util.Trees;
import java.nio.file.Path;
import java.util.ArrayList;
import java.util.HashMap;
import java.util.LinkedHashMap;
import java.util.LinkedHashSet;
import java.util.List;
import java.util.Map;
import java.util.Set;
import javax.lang.model.element.Element;
import javax.lang.model.element.ElementKind;
import javax.lang.model.element.ExecutableElement;
import javax.lang.model.element.Modifier;
import javax.lang.model.type.ArrayType;
import javax.lang.model.type.TypeKind;
import javax.lang.model.type.TypeMirror;
import javax.tools.JavaCompiler;
import javax.tools.StandardJavaFileManager;
import javax.tools.ToolProvider;

/** The rules of LANGUAGE.md that can be seen from the source: the compiler reads it, this looks. */
public final class LanguageTest extends TreePathScanner<Void, Void> {
    private static final String SOURCE = "src/main/java/PassagePapers.java";
    private static final int PARAMETERS_MOST = 7;
    private static final int LINES_MOST = 60;
    private static final int DEPTH_MOST = 8;
    private static final int CLASSES_MOST = 12;
    private static final int FIELDS_MOST = 20;
    private static final Set<String> LIBRARY = Set.of("String.length", "String.charAt", "Math.max",
        "Math.min", "Integer.bitCount", "System.arraycopy", "Object.<init>");
    private static final Set<String> EXCEPTIONS = Set.of("IllegalStateException", "IllegalArgumentException",
        "IndexOutOfBoundsException", "ArithmeticException", "UnsupportedOperationException",
        "NoSuchElementException", "RuntimeException");
    private static final Set<TypeKind> NUMBERS = Set.of(TypeKind.INT, TypeKind.LONG, TypeKind.SHORT,
        TypeKind.BYTE, TypeKind.CHAR, TypeKind.BOOLEAN);

    private final Trees trees;
    private final CompilationUnitTree unit;
    private final Map<ExecutableElement, Set<ExecutableElement>> calls = new LinkedHashMap<>();
    private final Map<ExecutableElement, Integer> depths = new HashMap<>();
    private int classes = 0;

    private LanguageTest(Trees trees, CompilationUnitTree unit) {
        this.trees = trees;
        this.unit = unit;
    }

    public static void main(String[] args) throws Exception {
        JavaCompiler compiler = ToolProvider.getSystemJavaCompiler();
        StandardJavaFileManager files = compiler.getStandardFileManager(null, null, null);
        JavacTask task = (JavacTask) compiler.getTask(null, files, null, null, null,
            files.getJavaFileObjects(Path.of(SOURCE)));
        List<CompilationUnitTree> units = new ArrayList<>();
        for (CompilationUnitTree unit : task.parse()) units.add(unit);
        task.analyze();
        Bench.due("one file", units.size(), 1);
        LanguageTest test = new LanguageTest(Trees.instance(task), units.get(0));
        Bench.due("no package line", units.get(0).getPackageName() == null, true);
        test.scan(units.get(0), null);
        test.holds(11, CLASSES_MOST + " classes at most, there are " + test.classes, test.classes <= CLASSES_MOST);
        test.recursionIsPrivate();
        test.callsAreShallow();
        Bench.end("LanguageTest");
    }

    /** Counts one look at a rule; tells the rule's number, if it does not hold. */
    private void holds(int rule, String what, boolean holds) {
        Bench.due("LANGUAGE.md, rule " + rule + ": " + what, holds, true);
    }

    private long line(Tree tree) {
        return unit.getLineMap().getLineNumber(trees.getSourcePositions().getStartPosition(unit, tree));
    }

    private String place(Tree tree) {
        return "line " + line(tree);
    }

    private Element here() {
        return trees.getElement(getCurrentPath());
    }

    // ---- what may stand there at all

    @Override
    public Void visitImport(ImportTree tree, Void none) {
        String name = tree.getQualifiedIdentifier().toString();
        holds(4, "import " + name, name.equals("java.util.NoSuchElementException") && !tree.isStatic());
        return super.visitImport(tree, none);
    }

    @Override
    public Void visitLambdaExpression(LambdaExpressionTree tree, Void none) {
        holds(2, "no lambda, " + place(tree), false);
        return super.visitLambdaExpression(tree, none);
    }

    @Override
    public Void visitMemberReference(MemberReferenceTree tree, Void none) {
        holds(2, "no method reference, " + place(tree), false);
        return super.visitMemberReference(tree, none);
    }

    @Override
    public Void visitTry(TryTree tree, Void none) {
        holds(6, "nothing is caught here, " + place(tree), false);
        return super.visitTry(tree, none);
    }

    @Override
    public Void visitSynchronized(SynchronizedTree tree, Void none) {
        holds(6, "no synchronized, " + place(tree), false);
        return super.visitSynchronized(tree, none);
    }

    @Override
    public Void visitAssert(AssertTree tree, Void none) {
        holds(6, "no assert, " + place(tree), false);
        return super.visitAssert(tree, none);
    }

    @Override
    public Void visitTypeCast(TypeCastTree tree, Void none) {
        TypeMirror type = trees.getTypeMirror(new TreePath(getCurrentPath(), tree.getType()));
        holds(6, "a cast among numbers alone, " + place(tree), NUMBERS.contains(type.getKind()));
        return super.visitTypeCast(tree, none);
    }

    @Override
    public Void visitLiteral(LiteralTree tree, Void none) {
        if (tree.getValue() instanceof String text) {
            holds(4, "signs 1 to 127, " + place(tree), text.chars().allMatch(c -> c >= 1 && c <= 127));
        }
        return super.visitLiteral(tree, none);
    }

    @Override
    public Void visitBinary(BinaryTree tree, Void none) {
        TypeMirror left = trees.getTypeMirror(new TreePath(getCurrentPath(), tree.getLeftOperand()));
        boolean joins = tree.getKind() == Tree.Kind.PLUS && !NUMBERS.contains(left.getKind());
        holds(10, "no texts joined by +, " + place(tree), !joins);
        return super.visitBinary(tree, none);
    }

    @Override
    public Void visitThrow(ThrowTree tree, Void none) {
        boolean plain = tree.getExpression() instanceof NewClassTree made
            && EXCEPTIONS.contains(made.getIdentifier().toString())
            && made.getArguments().size() <= 1
            && made.getArguments().stream().allMatch(a -> a.getKind() == Tree.Kind.STRING_LITERAL);
        holds(6, "throw new E(\"a written text\"), " + place(tree), plain);
        ExecutableElement method = enclosingMethod();
        holds(6, "no throw in a constructor, " + place(tree),
            method != null && method.getKind() == ElementKind.METHOD);
        return super.visitThrow(tree, none);
    }

    @Override
    public Void visitBlock(BlockTree tree, Void none) {
        boolean initialiser = getCurrentPath().getParentPath().getLeaf() instanceof ClassTree;
        holds(5, "no initialiser block, " + place(tree), !initialiser);
        return super.visitBlock(tree, none);
    }

    // ---- classes, fields, methods

    @Override
    public Void visitClass(ClassTree tree, Void none) {
        classes++;
        Element element = here();
        Set<Modifier> modifiers = element.getModifiers();
        boolean outer = getCurrentPath().getParentPath().getLeaf() instanceof CompilationUnitTree;
        boolean nested = getCurrentPath().getParentPath().getLeaf() instanceof ClassTree;
        holds(2, "no local or anonymous class, " + place(tree), outer || nested);
        holds(1, tree.getSimpleName() + " is static, and neither public nor protected",
            outer || modifiers.contains(Modifier.STATIC) && !modifiers.contains(Modifier.PUBLIC)
                && !modifiers.contains(Modifier.PROTECTED));
        int fields = 0;
        for (Tree member : tree.getMembers()) {
            if (member instanceof VariableTree v && !v.getModifiers().getFlags().contains(Modifier.STATIC)) fields++;
        }
        holds(11, tree.getSimpleName() + ": " + fields + " fields", fields <= FIELDS_MOST);
        return super.visitClass(tree, none);
    }

    @Override
    public Void visitVariable(VariableTree tree, Void none) {
        Element element = here();
        holds(3, "the type of " + tree.getName() + ", " + place(tree), isAllowed(element.asType()));
        if (element.getModifiers().contains(Modifier.STATIC)) {
            boolean constant = element.getModifiers().contains(Modifier.FINAL)
                && NUMBERS.contains(element.asType().getKind());
            holds(5, tree.getName() + " is a constant, " + place(tree), constant);
        }
        return super.visitVariable(tree, none);
    }

    private boolean isAllowed(TypeMirror type) {
        if (type instanceof ArrayType array) {
            TypeMirror inner = array.getComponentType();
            return inner instanceof ArrayType two ? NUMBERS.contains(two.getComponentType().getKind())
                : isAllowed(inner);
        }
        String name = type.toString();
        return NUMBERS.contains(type.getKind()) || name.equals("java.lang.String")
            || name.equals("PassagePapers") || name.startsWith("PassagePapers.");
    }

    @Override
    public Void visitMethod(MethodTree tree, Void none) {
        ExecutableElement method = (ExecutableElement) here();
        calls.computeIfAbsent(method, m -> new LinkedHashSet<>());
        holds(11, name(method) + " takes seven at most", method.getParameters().size() <= PARAMETERS_MOST);
        long end = unit.getLineMap().getLineNumber(trees.getSourcePositions().getEndPosition(unit, tree));
        // The constructor that nobody wrote has no lines.
        long lines = end < 0 ? 0 : end - line(tree) + 1;
        holds(11, name(method) + " is short", lines <= LINES_MOST);
        return super.visitMethod(tree, none);
    }

    // ---- what is made

    @Override
    public Void visitNewClass(NewClassTree tree, Void none) {
        boolean thrown = getCurrentPath().getParentPath().getLeaf() instanceof ThrowTree;
        holds(12, "nothing is made by a call, " + place(tree), thrown || isMadeAtOnce());
        ExecutableElement constructor = (ExecutableElement) here();
        ExecutableElement method = enclosingMethod();
        if (method != null && isOwn(constructor)) note(method, constructor);
        return super.visitNewClass(tree, none);
    }

    @Override
    public Void visitNewArray(NewArrayTree tree, Void none) {
        holds(12, "no row is made by a call, " + place(tree), isMadeAtOnce());
        return super.visitNewArray(tree, none);
    }

    /** In a field's first value or in a constructor: with the object itself. */
    private boolean isMadeAtOnce() {
        ExecutableElement method = enclosingMethod();
        return method == null || method.getKind() == ElementKind.CONSTRUCTOR;
    }

    // ---- who calls whom

    @Override
    public Void visitMethodInvocation(MethodInvocationTree tree, Void none) {
        ExecutableElement called = (ExecutableElement) here();
        ExecutableElement method = enclosingMethod();
        if (isOwn(called)) {
            if (method != null) note(method, called);
        } else {
            String name = called.getEnclosingElement().getSimpleName() + "." + called.getSimpleName();
            holds(4, name + ", " + place(tree), LIBRARY.contains(name));
        }
        return super.visitMethodInvocation(tree, none);
    }

    private void note(ExecutableElement method, ExecutableElement called) {
        calls.computeIfAbsent(method, m -> new LinkedHashSet<>()).add(called);
    }

    private static boolean isOwn(ExecutableElement method) {
        return method.getEnclosingElement().toString().startsWith("PassagePapers");
    }

    private ExecutableElement enclosingMethod() {
        for (TreePath path = getCurrentPath(); path != null; path = path.getParentPath()) {
            if (path.getLeaf() instanceof MethodTree) return (ExecutableElement) trees.getElement(path);
        }
        return null;
    }

    private static String name(ExecutableElement method) {
        return method.getEnclosingElement().getSimpleName() + "." + method.getSimpleName();
    }

    private boolean reaches(ExecutableElement from, ExecutableElement to, Set<ExecutableElement> seen) {
        for (ExecutableElement next : calls.getOrDefault(from, Set.of())) {
            if (next.equals(to) || seen.add(next) && reaches(next, to, seen)) return true;
        }
        return false;
    }

    private void recursionIsPrivate() {
        for (ExecutableElement method : calls.keySet()) {
            boolean callsItself = reaches(method, method, new LinkedHashSet<>());
            holds(8, name(method) + " comes back to itself, so it is private",
                !callsItself || method.getModifiers().contains(Modifier.PRIVATE));
        }
    }

    private void callsAreShallow() {
        for (ExecutableElement method : calls.keySet()) {
            if (method.getModifiers().contains(Modifier.PUBLIC)) {
                int depth = depth(method, new LinkedHashSet<>());
                holds(11, name(method) + " goes " + depth + " deep", depth <= DEPTH_MOST);
            }
        }
    }

    /** The longest way down on which no method stands twice. */
    private int depth(ExecutableElement method, Set<ExecutableElement> above) {
        Integer known = depths.get(method);
        if (known != null) return known;
        above.add(method);
        int deepest = 0;
        for (ExecutableElement next : calls.getOrDefault(method, Set.of())) {
            if (!above.contains(next)) deepest = Math.max(deepest, depth(next, above));
        }
        above.remove(method);
        // Of one that comes back to itself the depth depends on where it is entered.
        if (!reaches(method, method, new LinkedHashSet<>())) depths.put(method, 1 + deepest);
        return 1 + deepest;
    }
}
