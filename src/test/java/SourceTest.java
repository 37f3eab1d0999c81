import com.sun.source.tree.AnnotationTree;
import com.sun.source.tree.ArrayAccessTree;
import com.sun.source.tree.AssertTree;
import com.sun.source.tree.AssignmentTree;
import com.sun.source.tree.BinaryTree;
import com.sun.source.tree.BlockTree;
import com.sun.source.tree.ClassTree;
import com.sun.source.tree.CompilationUnitTree;
import com.sun.source.tree.CompoundAssignmentTree;
import com.sun.source.tree.ConditionalExpressionTree;
import com.sun.source.tree.DoWhileLoopTree;
import com.sun.source.tree.EnhancedForLoopTree;
import com.sun.source.tree.ExpressionTree;
import com.sun.source.tree.ForLoopTree;
import com.sun.source.tree.InstanceOfTree;
import com.sun.source.tree.LambdaExpressionTree;
import com.sun.source.tree.LiteralTree;
import com.sun.source.tree.MemberReferenceTree;
import com.sun.source.tree.MethodInvocationTree;
import com.sun.source.tree.MethodTree;
import com.sun.source.tree.NewArrayTree;
import com.sun.source.tree.NewClassTree;
import com.sun.source.tree.SynchronizedTree;
import com.sun.source.tree.ThrowTree;
import com.sun.source.tree.Tree;
import com.sun.source.tree.TryTree;
import com.sun.source.tree.TypeCastTree;
import com.sun.source.tree.UnaryTree;
import com.sun.source.tree.VariableTree;
import com.sun.source.tree.WhileLoopTree;
import com.sun.source.util.JavacTask;
import com.sun.source.util.TreePath;
import com.sun.source.util.TreePathScanner;
import com.sun.source.util.Trees;
import java.io.IOException;
import java.nio.file.Path;
import java.util.ArrayDeque;
import java.util.ArrayList;
import java.util.Deque;
import java.util.List;
import java.util.Map;
import java.util.Set;
import java.util.TreeMap;
import java.util.TreeSet;
import javax.lang.model.element.Element;
import javax.lang.model.element.ElementKind;
import javax.lang.model.element.Modifier;
import javax.lang.model.element.VariableElement;
import javax.lang.model.type.TypeMirror;
import javax.tools.JavaCompiler;
import javax.tools.StandardJavaFileManager;
import javax.tools.ToolProvider;

/** The rules of LANGUAGE.md, on the tree that the compiler makes of the file. */
public final class SourceTest extends TreePathScanner<Void, Void> {
    private static final Set<String> LIBRARY = Set.of(
        "java.lang.Math.max", "java.lang.Math.min", "java.util.Arrays.fill", "java.lang.System.arraycopy");
    private static final int MOST_LINES = 60;
    private static final int MOST_PARAMETERS = 7;
    private static final int MOST_DEPTH = 8;
    private static final int MOST_CLASSES = 12;
    private static final int MOST_FIELDS = 20;

    private final Trees trees;
    private final CompilationUnitTree unit;
    private final Set<String> wrong = new TreeSet<>();
    private final Set<String> classes = new TreeSet<>();
    private final Map<String, Set<String>> calls = new TreeMap<>();
    // A call of an abstract method may be one of each class that extends its own.
    private final Map<String, Set<String>> kinds = new TreeMap<>();
    private int loops = 0;

    private SourceTest(Trees trees, CompilationUnitTree unit) {
        this.trees = trees;
        this.unit = unit;
    }

    private void refuse(int rule, Tree tree) {
        long at = trees.getSourcePositions().getStartPosition(unit, tree);
        String text = tree.toString().strip().split("\n")[0];
        wrong.add("rule " + rule + ", line " + unit.getLineMap().getLineNumber(at) + ": " + text);
    }

    private Element element(Tree tree) {
        return trees.getElement(new TreePath(getCurrentPath(), tree));
    }

    private <T> T around(Class<T> kind) {
        for (TreePath at = getCurrentPath().getParentPath(); at != null; at = at.getParentPath()) {
            if (kind.isInstance(at.getLeaf())) return kind.cast(at.getLeaf());
        }
        return null;
    }

    private boolean isOwn(String type) {
        return type.equals("SketchCache") || type.startsWith("SketchCache.");
    }

    // Rules 2, 6 and 8: what the language leaves out.

    @Override public Void visitThrow(ThrowTree t, Void v) { refuse(6, t); return super.visitThrow(t, v); }
    @Override public Void visitTry(TryTree t, Void v) { refuse(6, t); return super.visitTry(t, v); }
    @Override public Void visitAssert(AssertTree t, Void v) { refuse(6, t); return super.visitAssert(t, v); }
    @Override public Void visitSynchronized(SynchronizedTree t, Void v) { refuse(6, t); return super.visitSynchronized(t, v); }
    @Override public Void visitLambdaExpression(LambdaExpressionTree t, Void v) { refuse(2, t); return super.visitLambdaExpression(t, v); }
    @Override public Void visitMemberReference(MemberReferenceTree t, Void v) { refuse(2, t); return super.visitMemberReference(t, v); }
    @Override public Void visitAnnotation(AnnotationTree t, Void v) { refuse(4, t); return super.visitAnnotation(t, v); }
    // The language has both behind a test; the class has neither, so it needs no test of the test.
    @Override public Void visitTypeCast(TypeCastTree t, Void v) { refuse(6, t); return super.visitTypeCast(t, v); }
    @Override public Void visitInstanceOf(InstanceOfTree t, Void v) { refuse(6, t); return super.visitInstanceOf(t, v); }

    @Override public Void visitClass(ClassTree t, Void v) {
        Element c = trees.getElement(getCurrentPath());
        classes.add(c.toString());
        boolean inside = c.getEnclosingElement().getKind() == ElementKind.CLASS;
        if (c.getKind() != ElementKind.CLASS || around(MethodTree.class) != null) refuse(2, t);
        if (inside && !t.getModifiers().getFlags().contains(Modifier.STATIC)) refuse(2, t);
        if (t.getExtendsClause() != null) {
            kinds.computeIfAbsent(element(t.getExtendsClause()).toString(), k -> new TreeSet<>()).add(c.toString());
        }
        int fields = 0;
        for (Tree member : t.getMembers()) {
            if (member instanceof BlockTree) refuse(5, member);
            if (member instanceof VariableTree f && !f.getModifiers().getFlags().contains(Modifier.STATIC)) fields++;
        }
        if (fields > MOST_FIELDS) refuse(11, t);
        return super.visitClass(t, v);
    }

    @Override public Void visitNewClass(NewClassTree t, Void v) {
        if (t.getClassBody() != null || !isOwn(trees.getTypeMirror(getCurrentPath()).toString())) refuse(2, t);
        if (loops > 0) refuse(12, t);
        return super.visitNewClass(t, v);
    }

    // Rule 3: of all its types the class needs these.

    private boolean isPlain(TypeMirror type) {
        String name = type.toString();
        boolean number = name.equals("int") || name.equals("boolean");
        return number || name.equals("int[]") || name.equals("int[][]")
            || isOwn(name.endsWith("[]") ? name.substring(0, name.length() - 2) : name);
    }

    @Override public Void visitVariable(VariableTree t, Void v) {
        Element variable = trees.getElement(getCurrentPath());
        if (!isPlain(variable.asType())) refuse(3, t);
        if (t.getModifiers().getFlags().contains(Modifier.STATIC)) staticField(t, variable);
        return super.visitVariable(t, v);
    }

    /** Rule 5: a constant, or an array that is written out. */
    private void staticField(VariableTree t, Element variable) {
        boolean fixed = t.getModifiers().getFlags().contains(Modifier.FINAL);
        boolean constant = ((VariableElement) variable).getConstantValue() != null;
        boolean array = t.getInitializer() instanceof NewArrayTree made && made.getInitializers() != null;
        if (!fixed || !constant && !array) refuse(5, t);
    }

    // Rule 5: an array that is static is never changed.

    private void changed(ExpressionTree target) {
        if (!(target instanceof ArrayAccessTree access)) return;
        Element array = trees.getElement(new TreePath(getCurrentPath(), access.getExpression()));
        if (array != null && array.getModifiers().contains(Modifier.STATIC)) refuse(5, target);
    }

    @Override public Void visitAssignment(AssignmentTree t, Void v) {
        changed(t.getVariable());
        return super.visitAssignment(t, v);
    }

    @Override public Void visitUnary(UnaryTree t, Void v) {
        if (t.getKind() != Tree.Kind.UNARY_MINUS && t.getKind() != Tree.Kind.LOGICAL_COMPLEMENT) changed(t.getExpression());
        return super.visitUnary(t, v);
    }

    // Rule 7: a divisor is a number other than 0, or is looked at before it divides.

    private void divides(Tree whole, ExpressionTree divisor) {
        Object number = divisor instanceof LiteralTree literal ? literal.getValue()
            : element(divisor) instanceof VariableElement named ? named.getConstantValue() : null;
        if (number instanceof Integer i && i != 0) return;
        ConditionalExpressionTree test = around(ConditionalExpressionTree.class);
        if (test == null || !test.getCondition().toString().equals("(" + divisor + " > 0)")
            && !test.getCondition().toString().equals(divisor + " > 0")) refuse(7, whole);
    }

    @Override public Void visitBinary(BinaryTree t, Void v) {
        if (t.getKind() == Tree.Kind.DIVIDE || t.getKind() == Tree.Kind.REMAINDER) divides(t, t.getRightOperand());
        if (!isPlain(trees.getTypeMirror(getCurrentPath()))) refuse(10, t);
        return super.visitBinary(t, v);
    }

    @Override public Void visitCompoundAssignment(CompoundAssignmentTree t, Void v) {
        boolean divide = t.getKind() == Tree.Kind.DIVIDE_ASSIGNMENT || t.getKind() == Tree.Kind.REMAINDER_ASSIGNMENT;
        if (divide) divides(t, t.getExpression());
        changed(t.getVariable());
        return super.visitCompoundAssignment(t, v);
    }

    // Rule 9: a loop tells its end; rule 12: nothing is made in one.

    @Override public Void visitForLoop(ForLoopTree t, Void v) {
        if (t.getCondition() == null || t.getCondition() instanceof LiteralTree) refuse(9, t);
        loops++;
        super.visitForLoop(t, v);
        loops--;
        return null;
    }

    @Override public Void visitEnhancedForLoop(EnhancedForLoopTree t, Void v) {
        loops++;
        super.visitEnhancedForLoop(t, v);
        loops--;
        return null;
    }

    @Override public Void visitWhileLoop(WhileLoopTree t, Void v) {
        if (t.getCondition().toString().equals("(true)")) refuse(9, t);
        loops++;
        super.visitWhileLoop(t, v);
        loops--;
        return null;
    }

    @Override public Void visitDoWhileLoop(DoWhileLoopTree t, Void v) {
        refuse(9, t);
        return super.visitDoWhileLoop(t, v);
    }

    @Override public Void visitNewArray(NewArrayTree t, Void v) {
        if (loops > 0) refuse(12, t);
        return super.visitNewArray(t, v);
    }

    // Rules 4, 8, 11 and 12: what is called, and from where.

    private static String nameOf(Element method) {
        return method.getEnclosingElement() + "." + method.getSimpleName();
    }

    @Override public Void visitMethod(MethodTree t, Void v) {
        long start = unit.getLineMap().getLineNumber(trees.getSourcePositions().getStartPosition(unit, t));
        long end = unit.getLineMap().getLineNumber(trees.getSourcePositions().getEndPosition(unit, t));
        if (end - start + 1 > MOST_LINES || t.getParameters().size() > MOST_PARAMETERS) refuse(11, t);
        if (!t.getThrows().isEmpty()) refuse(6, t);
        calls.computeIfAbsent(nameOf(trees.getElement(getCurrentPath())), k -> new TreeSet<>());
        return super.visitMethod(t, v);
    }

    @Override public Void visitMethodInvocation(MethodInvocationTree t, Void v) {
        Element called = trees.getElement(getCurrentPath());
        String name = nameOf(called);
        MethodTree caller = around(MethodTree.class);
        boolean constructor = called.getKind() == ElementKind.CONSTRUCTOR;
        boolean library = LIBRARY.contains(name) || constructor && name.equals("java.lang.Object.<init>");
        if (!library && !isOwn(called.getEnclosingElement().toString())) refuse(4, t);
        if (caller != null && !constructor) {
            Element by = trees.getElement(pathOf(caller));
            calls.computeIfAbsent(nameOf(by), k -> new TreeSet<>()).add(name);
            boolean fixed = called.getModifiers().contains(Modifier.STATIC);
            if (by.getKind() == ElementKind.CONSTRUCTOR && !fixed) refuse(12, t);
        }
        return super.visitMethodInvocation(t, v);
    }

    private TreePath pathOf(Tree tree) {
        TreePath at = getCurrentPath();
        while (at.getLeaf() != tree) at = at.getParentPath();
        return at;
    }

    private Set<String> calledBy(String method) {
        Set<String> all = new TreeSet<>();
        for (String name : calls.getOrDefault(method, Set.of())) {
            all.add(name);
            int dot = name.lastIndexOf('.');
            for (String kind : kinds.getOrDefault(name.substring(0, dot), Set.of())) all.add(kind + name.substring(dot));
        }
        return all;
    }

    /** The longest chain of calls behind those that stand open; the class has no recursion at all. */
    private List<String> deepest(Deque<String> open, String method) {
        List<String> best = new ArrayList<>(List.of(method));
        if (open.contains(method)) {
            wrong.add("rule 8: " + open + " calls " + method);
            return best;
        }
        open.addLast(method);
        for (String name : calledBy(method)) {
            List<String> deeper = deepest(open, name);
            if (deeper.size() + 1 > best.size()) {
                best = new ArrayList<>(List.of(method));
                best.addAll(deeper);
            }
        }
        open.removeLast();
        return best;
    }

    private void depths() {
        for (String method : new TreeSet<>(calls.keySet())) {
            List<String> chain = deepest(new ArrayDeque<>(), method);
            if (chain.size() > MOST_DEPTH) wrong.add("rule 11: " + chain);
        }
    }

    private static SourceTest read(Path file) throws IOException {
        JavaCompiler compiler = ToolProvider.getSystemJavaCompiler();
        try (StandardJavaFileManager files = compiler.getStandardFileManager(null, null, null)) {
            JavacTask task = (JavacTask) compiler.getTask(null, files, null, null, null, files.getJavaFileObjects(file));
            CompilationUnitTree unit = task.parse().iterator().next();
            task.analyze();
            SourceTest test = new SourceTest(Trees.instance(task), unit);
            test.scan(unit, null);
            test.depths();
            if (unit.getPackageName() != null) test.refuse(1, unit.getPackageName());
            if (test.classes.size() > MOST_CLASSES) test.wrong.add("rule 11: " + test.classes);
            return test;
        }
    }

    public static void main(String[] args) throws IOException {
        Due due = new Due("SourceTest");
        SourceTest test = read(Path.of("src/main/java/SketchCache.java"));
        for (String line : test.wrong) System.out.println(line);
        due.is("what LANGUAGE.md leaves out", test.wrong.size(), 0);
        due.is("the file was read: access stands in it", test.calls.containsKey("SketchCache.access") ? 1 : 0, 1);
        due.is("calls were seen", test.calls.get("SketchCache.access").isEmpty() ? 0 : 1, 1);
        due.is("replay calls a kind of Policy", test.calledBy("SketchCache.Player.play").contains("SketchCache.FourRows.asks") ? 1 : 0, 1);
        due.end();
    }
}
