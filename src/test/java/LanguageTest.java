import com.sun.source.tree.ArrayAccessTree;
import com.sun.source.tree.AssertTree;
import com.sun.source.tree.BinaryTree;
import com.sun.source.tree.BlockTree;
import com.sun.source.tree.ClassTree;
import com.sun.source.tree.CompilationUnitTree;
import com.sun.source.tree.DoWhileLoopTree;
import com.sun.source.tree.EnhancedForLoopTree;
import com.sun.source.tree.ExpressionTree;
import com.sun.source.tree.ForLoopTree;
import com.sun.source.tree.IdentifierTree;
import com.sun.source.tree.LambdaExpressionTree;
import com.sun.source.tree.LiteralTree;
import com.sun.source.tree.MemberReferenceTree;
import com.sun.source.tree.MemberSelectTree;
import com.sun.source.tree.MethodInvocationTree;
import com.sun.source.tree.MethodTree;
import com.sun.source.tree.NewArrayTree;
import com.sun.source.tree.NewClassTree;
import com.sun.source.tree.SynchronizedTree;
import com.sun.source.tree.ThrowTree;
import com.sun.source.tree.Tree;
import com.sun.source.tree.TryTree;
import com.sun.source.tree.TypeCastTree;
import com.sun.source.tree.VariableTree;
import com.sun.source.tree.WhileLoopTree;
import com.sun.source.util.JavacTask;
import com.sun.source.util.TreePathScanner;
import com.sun.source.util.Trees;
import java.io.IOException;
import java.nio.file.Files;
import java.nio.file.Path;
import java.util.HashMap;
import java.util.HashSet;
import java.util.List;
import java.util.Map;
import java.util.Set;
import javax.lang.model.element.Element;
import javax.lang.model.element.ElementKind;
import javax.lang.model.element.Modifier;
import javax.lang.model.element.VariableElement;
import javax.lang.model.type.ArrayType;
import javax.lang.model.type.TypeKind;
import javax.lang.model.type.TypeMirror;
import javax.tools.JavaCompiler;
import javax.tools.StandardJavaFileManager;
import javax.tools.ToolProvider;

/**
 * The rules of ../shared/LANGUAGE.md that can be seen in the class as the compiler reads it. It is run in the
 * project's folder. The class needs less than the rules allow (no library, no exception, no String, no object made
 * by a call, no recursion), so it is held to that.
 */
public final class LanguageTest extends TreePathScanner<Void, Void> {
    private static final Path SOURCE = Path.of("src/main/java/SnakeTrades.java");
    private static final String OWN = "SnakeTrades";
    private static final int MOST_LINES_OF_A_METHOD = 60;
    private static final int MOST_CLASSES = 12;
    private static final int MOST_FIELDS = 20;
    private static final int MOST_PARAMETERS = 7;
    private static final int DEEPEST_CALL = 8;

    private final Trees trees;
    private final CompilationUnitTree unit;
    private final Set<String> faceNames = new HashSet<>();
    private final Map<Element, Set<Element>> callsOf = new HashMap<>();
    private int classes = 0;
    private Element method = null;
    private String body = "";

    private LanguageTest(Trees trees, CompilationUnitTree unit) {
        this.trees = trees;
        this.unit = unit;
    }

    public static void main(String[] arguments) throws IOException {
        Checks.holds("rule 3: signs are 1 to 127",
            Files.readString(SOURCE).chars().allMatch(sign -> sign > 0 && sign < 128));
        JavaCompiler compiler = ToolProvider.getSystemJavaCompiler();
        try (StandardJavaFileManager files = compiler.getStandardFileManager(null, null, null)) {
            JavacTask task = (JavacTask) compiler.getTask(null, files, null, List.of("-proc:none"), null,
                files.getJavaFileObjects(SOURCE));
            CompilationUnitTree unit = task.parse().iterator().next();
            task.analyze();
            new LanguageTest(Trees.instance(task), unit).checkAll();
        }
        Checks.end("LanguageTest");
    }

    private void checkAll() {
        Checks.holds("no package, no import", unit.getPackageName() == null && unit.getImports().isEmpty());
        Checks.due("classes beside the public one", unit.getTypeDecls().size(), 1);
        scan(unit, null);
        Checks.holds("rule 11: classes: " + classes, classes > 1 && classes <= MOST_CLASSES);
        Checks.holds("methods are found: " + callsOf.size(), callsOf.size() > 50);
        for (Element called : callsOf.keySet()) {
            int depth = depthOf(called, new HashSet<>());
            Checks.holds("rule 11: " + called + " goes " + depth + " deep", depth <= DEEPEST_CALL);
        }
    }

    /** How many calls stand open at once at most; a recursion is told as a depth that is too much. */
    private int depthOf(Element called, Set<Element> open) {
        if (!open.add(called)) {
            return DEEPEST_CALL + 1;
        }
        int deepest = 0;
        for (Element next : callsOf.getOrDefault(called, Set.of())) {
            deepest = Math.max(deepest, depthOf(next, open));
        }
        open.remove(called);
        return deepest + 1;
    }

    private Element here() {
        return trees.getElement(getCurrentPath());
    }

    private void ruledOut(String rule, Tree tree) {
        Checks.holds(rule + ": " + tree, false);
    }

    private static boolean isStatic(Element element) {
        return element.getModifiers().contains(Modifier.STATIC);
    }

    // ---- classes, fields and types

    @Override
    public Void visitClass(ClassTree tree, Void nothing) {
        classes++;
        Element element = here();
        boolean isInside = element.getEnclosingElement().getKind() == ElementKind.CLASS;
        boolean isOutermost = element.getEnclosingElement().getKind() == ElementKind.PACKAGE;
        Checks.holds("rule 2: " + element + " is a static nested class", isOutermost
            || isInside && isStatic(element) && element.getModifiers().contains(Modifier.PRIVATE));
        Checks.holds("rule 12: " + element + " can't be extended", element.getModifiers().contains(Modifier.FINAL));
        long fields = element.getEnclosedElements().stream()
            .filter(inside -> inside.getKind() == ElementKind.FIELD && !isStatic(inside)).count();
        Checks.holds("rule 11: fields of " + element + ": " + fields, fields <= MOST_FIELDS);
        for (Element inside : element.getEnclosedElements()) {
            if (isOutermost && inside.getModifiers().contains(Modifier.PUBLIC)) {
                faceNames.add(inside.getSimpleName().toString());
            }
        }
        return super.visitClass(tree, nothing);
    }

    @Override
    public Void visitVariable(VariableTree tree, Void nothing) {
        Element element = here();
        Checks.holds("rule 3: the type of " + tree, isAllowed(element.asType()));
        if (element.getKind() == ElementKind.FIELD && isStatic(element)) {
            Checks.holds("rule 5: " + tree + " is a constant", ((VariableElement) element).getConstantValue() != null);
        }
        if (tree.getInitializer() instanceof MethodInvocationTree && !element.asType().getKind().isPrimitive()) {
            Checks.holds("rule 7: " + tree + " is looked at against null", body.contains(tree.getName() + " == null")
                || body.contains(tree.getName() + " != null"));
        }
        return super.visitVariable(tree, nothing);
    }

    private static boolean isAllowed(TypeMirror type) {
        if (type.getKind() == TypeKind.ARRAY) {
            TypeMirror element = ((ArrayType) type).getComponentType();
            return element.getKind() != TypeKind.ARRAY && isAllowed(element);
        }
        return type.getKind() == TypeKind.INT || type.getKind() == TypeKind.BOOLEAN
            || type.toString().startsWith(OWN + ".");
    }

    @Override
    public Void visitBlock(BlockTree tree, Void nothing) {
        Checks.holds("rule 5: no block outside a method", method != null);
        return super.visitBlock(tree, nothing);
    }

    // ---- methods and calls

    @Override
    public Void visitMethod(MethodTree tree, Void nothing) {
        method = here();
        body = "" + tree.getBody();
        callsOf.put(method, new HashSet<>());
        boolean isOfTheFace = method.getModifiers().contains(Modifier.PUBLIC);
        Checks.holds("rule 1: " + method + " has a name of its own",
            isOfTheFace || isConstructor(method) || !faceNames.contains(method.getSimpleName().toString()));
        Checks.holds("rule 6: " + method + " throws nothing", tree.getThrows().isEmpty());
        Checks.holds("rule 11: " + method + " has few parameters", tree.getParameters().size() <= MOST_PARAMETERS);
        Checks.holds("rule 11: " + method + " is short", linesOf(tree) <= MOST_LINES_OF_A_METHOD);
        super.visitMethod(tree, nothing);
        method = null;
        return null;
    }

    private static boolean isConstructor(Element element) {
        return element != null && element.getKind() == ElementKind.CONSTRUCTOR;
    }

    private long linesOf(Tree tree) {
        long begin = trees.getSourcePositions().getStartPosition(unit, tree);
        long end = trees.getSourcePositions().getEndPosition(unit, tree);
        return end < 0 ? 0 : unit.getLineMap().getLineNumber(end) - unit.getLineMap().getLineNumber(begin) + 1;
    }

    @Override
    public Void visitMethodInvocation(MethodInvocationTree tree, Void nothing) {
        Element called = here();
        String owner = called.getEnclosingElement().toString();
        boolean isOwn = owner.equals(OWN) || owner.startsWith(OWN + ".");
        boolean isSuper = isConstructor(called) && owner.equals("java.lang.Object");
        Checks.holds("rule 4: " + tree + " calls no library", isOwn || isSuper);
        if (isOwn && method != null) {
            callsOf.get(method).add(called);
        }
        return super.visitMethodInvocation(tree, nothing);
    }

    @Override
    public Void visitNewClass(NewClassTree tree, Void nothing) {
        Checks.holds("rule 12: " + tree + " is made in a constructor", isConstructor(method));
        Checks.holds("rule 2: " + tree + " is not anonymous", tree.getClassBody() == null);
        if (method != null) {
            callsOf.get(method).add(here());
        }
        return super.visitNewClass(tree, nothing);
    }

    @Override
    public Void visitNewArray(NewArrayTree tree, Void nothing) {
        Checks.holds("rule 12: " + tree + " is made in a constructor", isConstructor(method));
        return super.visitNewArray(tree, nothing);
    }

    // ---- what the machine could throw at

    @Override
    public Void visitArrayAccess(ArrayAccessTree tree, Void nothing) {
        Checks.holds("rule 7: the index of " + tree + " in " + method + " is looked at",
            body.contains(tree.getExpression() + ".length"));
        return super.visitArrayAccess(tree, nothing);
    }

    @Override
    public Void visitMemberSelect(MemberSelectTree tree, Void nothing) {
        Checks.holds("rule 7: " + tree + " is not asked of what may be null",
            !(tree.getExpression() instanceof MethodInvocationTree));
        return super.visitMemberSelect(tree, nothing);
    }

    @Override
    public Void visitBinary(BinaryTree tree, Void nothing) {
        if (tree.getKind() == Tree.Kind.DIVIDE || tree.getKind() == Tree.Kind.REMAINDER) {
            Checks.holds("rule 7: the divisor of " + tree + " is a constant above 0",
                isPositive(tree.getRightOperand()));
        }
        return super.visitBinary(tree, nothing);
    }

    private boolean isPositive(ExpressionTree divisor) {
        Object value = null;
        if (divisor instanceof LiteralTree) {
            value = ((LiteralTree) divisor).getValue();
        } else if (divisor instanceof IdentifierTree || divisor instanceof TypeCastTree) {
            ExpressionTree name = divisor instanceof TypeCastTree ? ((TypeCastTree) divisor).getExpression() : divisor;
            Element constant = trees.getElement(trees.getPath(unit, name));
            value = constant instanceof VariableElement ? ((VariableElement) constant).getConstantValue() : null;
        }
        return value instanceof Integer && (Integer) value > 0;
    }

    @Override
    public Void visitTypeCast(TypeCastTree tree, Void nothing) {
        Checks.holds("rule 7: the cast " + tree + " is one of numbers",
            trees.getTypeMirror(getCurrentPath()).getKind().isPrimitive());
        return super.visitTypeCast(tree, nothing);
    }

    // ---- loops

    private void boundDue(ExpressionTree condition, Tree loop) {
        String told = "" + condition;
        Checks.holds("rule 9: a bound of " + told + " in " + method,
            condition != null && (told.contains("<") || told.contains(">")));
        Checks.holds("rule 9: " + loop.getKind() + " in a method", method != null);
    }

    @Override
    public Void visitForLoop(ForLoopTree tree, Void nothing) {
        boundDue(tree.getCondition(), tree);
        Checks.due("rule 9: steps of the counter in " + method, tree.getUpdate().size(), 1);
        return super.visitForLoop(tree, nothing);
    }

    @Override
    public Void visitWhileLoop(WhileLoopTree tree, Void nothing) {
        boundDue(tree.getCondition(), tree);
        return super.visitWhileLoop(tree, nothing);
    }

    @Override
    public Void visitDoWhileLoop(DoWhileLoopTree tree, Void nothing) {
        boundDue(tree.getCondition(), tree);
        return super.visitDoWhileLoop(tree, nothing);
    }

    // ---- what is not used at all

    @Override
    public Void visitEnhancedForLoop(EnhancedForLoopTree tree, Void nothing) {
        ruledOut("rule 12, an iterator might be made", tree);
        return null;
    }

    @Override
    public Void visitThrow(ThrowTree tree, Void nothing) {
        ruledOut("rule 6, the document names no exception", tree);
        return null;
    }

    @Override
    public Void visitTry(TryTree tree, Void nothing) {
        ruledOut("rule 6", tree);
        return null;
    }

    @Override
    public Void visitSynchronized(SynchronizedTree tree, Void nothing) {
        ruledOut("rule 6", tree);
        return null;
    }

    @Override
    public Void visitAssert(AssertTree tree, Void nothing) {
        ruledOut("rule 6", tree);
        return null;
    }

    @Override
    public Void visitLambdaExpression(LambdaExpressionTree tree, Void nothing) {
        ruledOut("rule 2", tree);
        return null;
    }

    @Override
    public Void visitMemberReference(MemberReferenceTree tree, Void nothing) {
        ruledOut("rule 2", tree);
        return null;
    }
}
