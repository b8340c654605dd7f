import com.sun.source.tree.AssertTree;
import com.sun.source.tree.BinaryTree;
import com.sun.source.tree.ClassTree;
import com.sun.source.tree.CompilationUnitTree;
import com.sun.source.tree.CompoundAssignmentTree;
import com.sun.source.tree.DoWhileLoopTree;
import com.sun.source.tree.ForLoopTree;
import com.sun.source.tree.LambdaExpressionTree;
import com.sun.source.tree.LiteralTree;
import com.sun.source.tree.MemberReferenceTree;
import com.sun.source.tree.MethodInvocationTree;
import com.sun.source.tree.MethodTree;
import com.sun.source.tree.NewArrayTree;
import com.sun.source.tree.NewClassTree;
import com.sun.source.tree.SynchronizedTree;
import com.sun.source.tree.ThrowTree;
import com.sun.source.tree.Tree;
import com.sun.source.tree.TryTree;
import com.sun.source.tree.TypeCastTree;
import com.sun.source.tree.VariableTree;
import com.sun.source.tree.WhileLoopTree;
import com.sun.source.util.JavacTask;
import com.sun.source.util.TreePath;
import com.sun.source.util.TreePathScanner;
import com.sun.source.util.Trees;
import java.nio.file.Path;
import java.util.ArrayList;
import java.util.LinkedHashMap;
import java.util.List;
import java.util.Map;
import java.util.Set;
import java.util.TreeSet;
import javax.lang.model.element.Element;
import javax.lang.model.element.ElementKind;
import javax.lang.model.element.ExecutableElement;
import javax.lang.model.element.Modifier;
import javax.lang.model.element.TypeElement;
import javax.lang.model.element.VariableElement;
import javax.lang.model.type.TypeKind;
import javax.lang.model.type.TypeMirror;
import javax.tools.StandardJavaFileManager;
import javax.tools.ToolProvider;

/** The rules of LANGUAGE.md by the compiler's own reading of the source, each told with its number. */
public final class RulesTest extends TreePathScanner<Void, Void> {
    private static final Set<String> LIBRARY = Set.of("String.length", "String.charAt", "Arrays.fill", "Integer.bitCount",
        "Math.abs", "Math.max", "Math.min", "Math.floorDiv", "System.arraycopy", "Object.Object");
    private static final int CALLS_DEEP = 8;
    private final Trees trees;
    private final Map<String, Set<String>> calls = new LinkedHashMap<>();
    private final Map<String, Boolean> open = new LinkedHashMap<>();
    private int classes = 0;
    private int wrong = 0;

    private RulesTest(Trees trees) {
        this.trees = trees;
    }

    public static void main(String[] args) throws Exception {
        Path source = Path.of(System.getProperty("source", "src/main/java/MorningCoin.java"));
        var compiler = ToolProvider.getSystemJavaCompiler();
        try (StandardJavaFileManager files = compiler.getStandardFileManager(null, null, null)) {
            var units = files.getJavaFileObjects(source);
            JavacTask task = (JavacTask) compiler.getTask(null, files, null, List.of("-proc:none"), null, units);
            Iterable<? extends CompilationUnitTree> read = task.parse();
            task.analyze();
            RulesTest rules = new RulesTest(Trees.instance(task));
            for (CompilationUnitTree unit : read) rules.scan(unit, null);
            rules.calls();
            System.out.println(rules.wrong == 0 ? "all rules are kept" : rules.wrong + " rules are broken");
            if (rules.wrong != 0) System.exit(1);
        }
    }

    private void must(boolean is, int rule, String what) {
        if (is) return;
        wrong++;
        CompilationUnitTree unit = getCurrentPath() == null ? null : getCurrentPath().getCompilationUnit();
        long at = unit == null ? -1 : trees.getSourcePositions().getStartPosition(unit, getCurrentPath().getLeaf());
        String line = at < 0 ? "" : " (line " + unit.getLineMap().getLineNumber(at) + ")";
        System.out.println("rule " + rule + line + ": " + what);
    }

    private Element element() {
        return trees.getElement(getCurrentPath());
    }

    private static boolean isOwn(TypeElement type) {
        return type.getQualifiedName().toString().startsWith("MorningCoin");
    }

    private static String name(Element method) {
        String owner = method.getEnclosingElement().getSimpleName().toString();
        boolean constructor = method.getKind() == ElementKind.CONSTRUCTOR;
        return owner + "." + (constructor ? owner : method.getSimpleName());
    }

    /** What a type may be: a number, a boolean, a text, a class inside, or rows of them. */
    private boolean isAllowed(TypeMirror type, int rows) {
        if (type.getKind() == TypeKind.ARRAY) {
            return rows < 2 && isAllowed(((javax.lang.model.type.ArrayType) type).getComponentType(), rows + 1);
        }
        if (type.getKind().isPrimitive()) return true;
        if (!(type instanceof javax.lang.model.type.DeclaredType declared)) return type.getKind() == TypeKind.VOID;
        TypeElement of = (TypeElement) declared.asElement();
        return rows < 2 && (isOwn(of) || rows == 0 && of.getQualifiedName().contentEquals("java.lang.String"));
    }

    @Override
    public Void visitClass(ClassTree tree, Void v) {
        classes++;
        TypeElement type = (TypeElement) element();
        boolean inside = type.getEnclosingElement() instanceof TypeElement;
        must(classes <= 12, 11, "the file has some twelve classes");
        must(tree.getSimpleName().length() > 0, 2, "no class without a name");
        must(!inside || type.getModifiers().contains(Modifier.STATIC), 2, "a class inside is static");
        must(!inside || !type.getModifiers().contains(Modifier.PUBLIC) && !type.getModifiers().contains(Modifier.PROTECTED),
            1, "a class inside is private or package-visible");
        must(inside || type.getEnclosingElement().getKind() == ElementKind.PACKAGE, 2, "no class in a method");
        int own = 0;
        for (Tree member : tree.getMembers()) {
            must(member.getKind() != Tree.Kind.BLOCK, 5, "no block beside the methods");
            boolean field = member instanceof VariableTree;
            own += field && !((VariableTree) member).getModifiers().getFlags().contains(Modifier.STATIC) ? 1 : 0;
        }
        must(own <= 20, 11, type + " has some twenty fields");
        return super.visitClass(tree, v);
    }

    @Override
    public Void visitVariable(VariableTree tree, Void v) {
        VariableElement at = (VariableElement) element();
        must(isAllowed(at.asType(), 0), 3, at + " is of a type " + at.asType());
        if (at.getModifiers().contains(Modifier.STATIC)) {
            must(at.getModifiers().contains(Modifier.FINAL) && at.getConstantValue() != null, 5, at + " is a constant");
        }
        return super.visitVariable(tree, v);
    }

    @Override
    public Void visitMethod(MethodTree tree, Void v) {
        ExecutableElement method = (ExecutableElement) element();
        must(isAllowed(method.getReturnType(), 0), 3, method + " gives a " + method.getReturnType());
        must(tree.getParameters().size() <= 7, 11, method + " takes seven parameters at most");
        must(!calls.containsKey(name(method)), 11, name(method) + " is the name of one method");
        calls.put(name(method), new TreeSet<>());
        open.put(name(method), method.getModifiers().contains(Modifier.PUBLIC));
        CompilationUnitTree unit = getCurrentPath().getCompilationUnit();
        var lines = unit.getLineMap();
        var places = trees.getSourcePositions();
        long start = places.getStartPosition(unit, tree);
        long end = places.getEndPosition(unit, tree);
        if (start >= 0 && end >= 0) {
            must(lines.getLineNumber(end) - lines.getLineNumber(start) < 60, 11, method + " has sixty lines at most");
        }
        return super.visitMethod(tree, v);
    }

    private void call(Element called) {
        TypeElement of = (TypeElement) called.getEnclosingElement();
        if (!isOwn(of)) {
            must(LIBRARY.contains(name(called)), 4, "no call of " + name(called));
            return;
        }
        MethodTree from = caller();
        if (from != null) calls.get(name(trees.getElement(new TreePath(callerPath(), from)))).add(name(called));
    }

    private TreePath methodPath() {
        TreePath path = getCurrentPath();
        while (path != null && !(path.getLeaf() instanceof MethodTree)) path = path.getParentPath();
        return path;
    }

    private TreePath callerPath() {
        TreePath path = methodPath();
        return path == null ? null : path.getParentPath();
    }

    private MethodTree caller() {
        TreePath path = methodPath();
        return path == null ? null : (MethodTree) path.getLeaf();
    }

    @Override
    public Void visitMethodInvocation(MethodInvocationTree tree, Void v) {
        call(element());
        return super.visitMethodInvocation(tree, v);
    }

    @Override
    public Void visitNewClass(NewClassTree tree, Void v) {
        call(element());
        must(tree.getClassBody() == null, 2, "no class without a name");
        made();
        return super.visitNewClass(tree, v);
    }

    @Override
    public Void visitNewArray(NewArrayTree tree, Void v) {
        made();
        return super.visitNewArray(tree, v);
    }

    /** Rows are made with the object, but for the one of DEALS, which grows with the CHILDREN. */
    private void made() {
        MethodTree from = caller();
        if (from == null || from.getReturnType() == null) return;
        String name = name(trees.getElement(methodPath()));
        must(name.equals("Dealings.deal"), 12, name + " makes something");
    }

    @Override
    public Void visitBinary(BinaryTree tree, Void v) {
        TypeMirror left = trees.getTypeMirror(new TreePath(getCurrentPath(), tree.getLeftOperand()));
        TypeMirror right = trees.getTypeMirror(new TreePath(getCurrentPath(), tree.getRightOperand()));
        must(left.getKind().isPrimitive() && right.getKind().isPrimitive(), 10, "signs join numbers alone: " + tree);
        return super.visitBinary(tree, v);
    }

    @Override
    public Void visitCompoundAssignment(CompoundAssignmentTree tree, Void v) {
        TypeMirror left = trees.getTypeMirror(new TreePath(getCurrentPath(), tree.getVariable()));
        must(left.getKind().isPrimitive(), 10, "signs join numbers alone: " + tree);
        return super.visitCompoundAssignment(tree, v);
    }

    @Override
    public Void visitLiteral(LiteralTree tree, Void v) {
        if (tree.getValue() instanceof String s) {
            must(s.chars().allMatch(c -> c >= 1 && c <= 127), 4, "a text's signs are 1 to 127");
        }
        return super.visitLiteral(tree, v);
    }

    @Override
    public Void visitTypeCast(TypeCastTree tree, Void v) {
        must(trees.getTypeMirror(getCurrentPath()).getKind().isPrimitive(), 6, "casts of numbers alone: " + tree);
        return super.visitTypeCast(tree, v);
    }

    @Override
    public Void visitForLoop(ForLoopTree tree, Void v) {
        must(tree.getCondition() != null && !tree.getUpdate().isEmpty(), 9, "a loop has its end");
        return super.visitForLoop(tree, v);
    }

    @Override
    public Void visitWhileLoop(WhileLoopTree tree, Void v) {
        must(!tree.getCondition().toString().equals("(true)"), 9, "a loop has its end");
        return super.visitWhileLoop(tree, v);
    }

    @Override
    public Void visitDoWhileLoop(DoWhileLoopTree tree, Void v) {
        must(!tree.getCondition().toString().equals("(true)"), 9, "a loop has its end");
        return super.visitDoWhileLoop(tree, v);
    }

    @Override
    public Void visitLambdaExpression(LambdaExpressionTree tree, Void v) {
        must(false, 2, "no lambda");
        return null;
    }

    @Override
    public Void visitMemberReference(MemberReferenceTree tree, Void v) {
        must(false, 2, "no method reference");
        return null;
    }

    @Override
    public Void visitThrow(ThrowTree tree, Void v) {
        must(false, 6, "no throw");
        return super.visitThrow(tree, v);
    }

    @Override
    public Void visitTry(TryTree tree, Void v) {
        must(false, 6, "no try");
        return super.visitTry(tree, v);
    }

    @Override
    public Void visitSynchronized(SynchronizedTree tree, Void v) {
        must(false, 6, "no synchronized");
        return super.visitSynchronized(tree, v);
    }

    @Override
    public Void visitAssert(AssertTree tree, Void v) {
        must(false, 6, "no assert");
        return super.visitAssert(tree, v);
    }

    /** No method comes back to itself, and from the public ones calls go eight deep at most. */
    private void calls() {
        for (String name : calls.keySet()) {
            if (open.get(name)) deep(name, new ArrayList<>());
        }
        Set<String> reached = new TreeSet<>();
        for (String name : calls.keySet()) if (open.get(name)) reach(name, reached);
        for (String name : calls.keySet()) {
            boolean made = name.replaceFirst("\\..*", "").equals(name.replaceFirst(".*\\.", ""));
            must(reached.contains(name) || made, 11, name + " is called by none");
        }
    }

    private void deep(String name, List<String> above) {
        must(!above.contains(name), 8, name + " calls itself: " + above);
        if (above.contains(name)) return;
        List<String> row = new ArrayList<>(above);
        row.add(name);
        must(row.size() <= CALLS_DEEP, 11, "calls go eight deep at most: " + row);
        for (String next : calls.getOrDefault(name, Set.of())) deep(next, row);
    }

    private void reach(String name, Set<String> reached) {
        if (!reached.add(name)) return;
        for (String next : calls.getOrDefault(name, Set.of())) reach(next, reached);
    }
}
