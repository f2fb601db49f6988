import com.sun.source.tree.AssertTree;
import com.sun.source.tree.BinaryTree;
import com.sun.source.tree.ClassTree;
import com.sun.source.tree.CompilationUnitTree;
import com.sun.source.tree.CompoundAssignmentTree;
import com.sun.source.tree.DoWhileLoopTree;
import com.sun.source.tree.EnhancedForLoopTree;
import com.sun.source.tree.ExpressionTree;
import com.sun.source.tree.ForLoopTree;
import com.sun.source.tree.IdentifierTree;
import com.sun.source.tree.InstanceOfTree;
import com.sun.source.tree.LambdaExpressionTree;
import com.sun.source.tree.MemberReferenceTree;
import com.sun.source.tree.MemberSelectTree;
import com.sun.source.tree.MethodInvocationTree;
import com.sun.source.tree.MethodTree;
import com.sun.source.tree.NewArrayTree;
import com.sun.source.tree.NewClassTree;
import com.sun.source.tree.ParenthesizedTree;
import com.sun.source.tree.SynchronizedTree;
import com.sun.source.tree.ThrowTree;
import com.sun.source.tree.Tree;
import com.sun.source.tree.TryTree;
import com.sun.source.tree.TypeCastTree;
import com.sun.source.tree.VariableTree;
import com.sun.source.tree.WhileLoopTree;
import com.sun.source.util.JavacTask;
import com.sun.source.util.TreePath;
import com.sun.source.util.TreePathScanner;
import com.sun.source.util.Trees;
import java.io.IOException;
import java.nio.file.Files;
import java.nio.file.Path;
import java.util.HashMap;
import java.util.HashSet;
import java.util.List;
import java.util.Map;
import java.util.Set;
import javax.lang.model.element.Element;
import javax.lang.model.element.ElementKind;
import javax.lang.model.element.ExecutableElement;
import javax.lang.model.element.Modifier;
import javax.lang.model.element.VariableElement;
import javax.lang.model.type.ArrayType;
import javax.lang.model.type.TypeKind;
import javax.lang.model.type.TypeMirror;
import javax.tools.JavaCompiler;
import javax.tools.StandardJavaFileManager;
import javax.tools.ToolProvider;

/**
 * Holds the source of the class, as javac reads it, against the rules of LANGUAGE.md that it can tell. Where the class
 * needs less than a rule leaves, the test is as strict as the class: no text, no recursion, no call that makes objects.
 */
final class SourceTests extends TreePathScanner<Void, Void> {
    private static final Path SOURCE = Path.of("src/main/java/SlipHouse.java");
    private static final Set<String> OF_MATH = Set.of("min", "max");
    private static final int MOST_CLASSES = 12;
    private static final int MOST_FIELDS = 20;
    private static final int MOST_PARAMETERS = 7;
    private static final int MOST_LINES = 60;
    private static final int MOST_CALLS_DEEP = 8;

    private final Trees trees;
    private final CompilationUnitTree unit;
    /** Of each method, those of the class that it calls. */
    private final Map<Element, Set<Element>> calls = new HashMap<>();
    private Element method;
    private int classes;

    private SourceTests(Trees trees, CompilationUnitTree unit) {
        this.trees = trees;
        this.unit = unit;
    }

    static void run() {
        JavaCompiler compiler = ToolProvider.getSystemJavaCompiler();
        try (StandardJavaFileManager files = compiler.getStandardFileManager(null, null, null)) {
            JavacTask task = (JavacTask) compiler.getTask(null, files, null, List.of("-proc:none"), null,
                files.getJavaFileObjects(SOURCE));
            CompilationUnitTree unit = task.parse().iterator().next();
            task.analyze();
            new SourceTests(Trees.instance(task), unit).holds();
            signs();
        } catch (IOException e) {
            Check.due("R1 the class can be read", false, true);
        }
    }

    /** Rule 4: signs above 127 stand in no constant; here they stand nowhere. */
    private static void signs() throws IOException {
        Check.due("R4 signs above 127", Files.readString(SOURCE).chars().anyMatch(sign -> sign > 127), false);
    }

    private void holds() {
        Check.due("R1 without a package line", unit.getPackage() == null, true);
        Check.due("R4 imports", unit.getImports().size(), 0);
        Check.due("R1 classes beside it", unit.getTypeDecls().size(), 1);
        scan(unit, null);
        Check.due("R11 some twelve classes", classes <= MOST_CLASSES, true);
        Check.due("R11 methods were seen", calls.size() > 30, true);
        for (Element called : calls.keySet()) {
            int deep = callsDeep(called, 1, new HashSet<>());
            Check.due("R8, R11 at most eight calls deep, none again: " + called, deep <= MOST_CALLS_DEEP, true);
        }
    }

    /** How deep the calls go that a method makes; too deep if one of them is open already. */
    private int callsDeep(Element of, int depth, Set<Element> open) {
        if (!open.add(of)) {
            return MOST_CALLS_DEEP + 1;
        }
        int deepest = depth;
        for (Element called : calls.getOrDefault(of, Set.of())) {
            deepest = Math.max(deepest, callsDeep(called, depth + 1, open));
        }
        open.remove(of);
        return deepest;
    }

    private Element element() {
        return trees.getElement(getCurrentPath());
    }

    private String at(Tree tree) {
        long line = unit.getLineMap().getLineNumber(trees.getSourcePositions().getStartPosition(unit, tree));
        return " in line " + line;
    }

    /** Whether javac wrote it itself, such as a constructor that the class does not have. */
    private boolean isImplied(Tree tree) {
        return trees.getSourcePositions().getEndPosition(unit, tree) < 0;
    }

    private Void ruledOut(String what, Tree tree) {
        Check.due(what + at(tree), true, false);
        return null;
    }

    private boolean isOwn(Element of) {
        for (Element outer = of; outer != null; outer = outer.getEnclosingElement()) {
            if (outer.getSimpleName().contentEquals("SlipHouse")) {
                return true;
            }
        }
        return false;
    }

    @Override
    public Void visitClass(ClassTree tree, Void none) {
        classes++;
        Element type = element();
        boolean isOuter = getCurrentPath().getParentPath().getLeaf().getKind() == Tree.Kind.COMPILATION_UNIT;
        boolean isInside = getCurrentPath().getParentPath().getLeaf() instanceof ClassTree;
        Check.due("R2 a class inside" + at(tree), isOuter || isInside, true);
        Check.due("R2 static" + at(tree), isOuter || type.getModifiers().contains(Modifier.STATIC), true);
        Check.due("R1 public" + at(tree), type.getModifiers().contains(Modifier.PUBLIC), isOuter);
        Check.due("R2 a class and no enum, record or interface" + at(tree), type.getKind() == ElementKind.CLASS, true);
        int fields = 0;
        for (Element member : type.getEnclosedElements()) {
            if (member.getKind() == ElementKind.FIELD && !member.getModifiers().contains(Modifier.STATIC)) {
                fields++;
            }
            Check.due("R5 an initialiser block" + at(tree), member.getKind() == ElementKind.STATIC_INIT, false);
        }
        Check.due("R11 some twenty fields" + at(tree), fields <= MOST_FIELDS, true);
        return super.visitClass(tree, none);
    }

    @Override
    public Void visitVariable(VariableTree tree, Void none) {
        VariableElement variable = (VariableElement) element();
        isLeft(variable.asType(), tree);
        if (variable.getModifiers().contains(Modifier.STATIC)) {
            Check.due("R5 final" + at(tree), variable.getModifiers().contains(Modifier.FINAL), true);
            Check.due("R5 a constant" + at(tree), variable.getConstantValue() != null, true);
        }
        return super.visitVariable(tree, none);
    }

    /** Rule 3: numbers, arrays of them of at most two dimensions, classes of its own. */
    private void isLeft(TypeMirror type, Tree tree) {
        TypeMirror part = type;
        int dimensions = 0;
        for (; part.getKind() == TypeKind.ARRAY; part = ((ArrayType) part).getComponentType()) {
            dimensions++;
        }
        boolean isNumber = part.getKind().isPrimitive() && part.getKind() != TypeKind.DOUBLE
            && part.getKind() != TypeKind.FLOAT;
        boolean isOwnClass = part.getKind() == TypeKind.DECLARED && dimensions <= 1 && isOwnType(part);
        Check.due("R3 type " + type + at(tree), dimensions <= 2 && isNumber || isOwnClass, true);
    }

    private boolean isOwnType(TypeMirror type) {
        return type.toString().startsWith("SlipHouse");
    }

    @Override
    public Void visitMethod(MethodTree tree, Void none) {
        ExecutableElement made = (ExecutableElement) element();
        if (isImplied(tree)) {
            return null;
        }
        method = made;
        calls.put(method, new HashSet<>());
        if (made.getKind() == ElementKind.METHOD && made.getReturnType().getKind() != TypeKind.VOID) {
            isLeft(made.getReturnType(), tree);
        }
        Check.due("R11 at most seven parameters" + at(tree), tree.getParameters().size() <= MOST_PARAMETERS, true);
        Check.due("R11 some sixty lines" + at(tree), lines(tree) <= MOST_LINES, true);
        Check.due("R6 throws" + at(tree), tree.getThrows().size(), 0);
        super.visitMethod(tree, none);
        method = null;
        return null;
    }

    private long lines(Tree tree) {
        long start = trees.getSourcePositions().getStartPosition(unit, tree);
        long end = trees.getSourcePositions().getEndPosition(unit, tree);
        return unit.getLineMap().getLineNumber(end) - unit.getLineMap().getLineNumber(start) + 1;
    }

    @Override
    public Void visitMethodInvocation(MethodInvocationTree tree, Void none) {
        Element called = element();
        if (isOwn(called)) {
            Set<Element> ofMethod = calls.get(method);
            Check.due("R8 a call outside a method" + at(tree), ofMethod == null, false);
            if (ofMethod != null) {
                ofMethod.add(called);
            }
            Check.due("R12 a constructor calls no method" + at(tree), isInConstructor(), false);
        } else if (called.getKind() != ElementKind.CONSTRUCTOR) {
            boolean isOfMath = called.getEnclosingElement().toString().equals("java.lang.Math");
            Check.due("R4 " + called + at(tree), isOfMath && OF_MATH.contains(called.getSimpleName().toString()), true);
        }
        return super.visitMethodInvocation(tree, none);
    }

    private boolean isInConstructor() {
        return method != null && method.getKind() == ElementKind.CONSTRUCTOR;
    }

    /** Rule 12: what the house needs is made with it; no call makes more. */
    private void isMadeWithTheHouse(Tree tree) {
        Check.due("R12 made by a call" + at(tree), method == null || isInConstructor(), true);
    }

    @Override
    public Void visitNewClass(NewClassTree tree, Void none) {
        Check.due("R2 a class without a name" + at(tree), tree.getClassBody() == null, true);
        Check.due("R4 new " + tree.getIdentifier() + at(tree), isOwn(element()), true);
        isMadeWithTheHouse(tree);
        return super.visitNewClass(tree, none);
    }

    @Override
    public Void visitNewArray(NewArrayTree tree, Void none) {
        isMadeWithTheHouse(tree);
        return super.visitNewArray(tree, none);
    }

    /** Rule 12: a constructor names its object for the fields alone. */
    @Override
    public Void visitIdentifier(IdentifierTree tree, Void none) {
        Tree parent = getCurrentPath().getParentPath().getLeaf();
        if (tree.getName().contentEquals("this") && isInConstructor()) {
            boolean isField = parent instanceof MemberSelectTree
                && trees.getElement(getCurrentPath().getParentPath()).getKind() == ElementKind.FIELD;
            Check.due("R12 hands out nothing of the object" + at(tree), isField, true);
        }
        return super.visitIdentifier(tree, none);
    }

    @Override
    public Void visitTypeCast(TypeCastTree tree, Void none) {
        boolean isNumber = trees.getTypeMirror(new TreePath(getCurrentPath(), tree.getType())).getKind().isPrimitive();
        Check.due("R6 a cast to a number" + at(tree), isNumber, true);
        return super.visitTypeCast(tree, none);
    }

    /** Rule 7: what divides is a number written out, and not 0, or the counter of a loop that ends ahead of 0. */
    @Override
    public Void visitBinary(BinaryTree tree, Void none) {
        if (tree.getKind() == Tree.Kind.DIVIDE || tree.getKind() == Tree.Kind.REMAINDER) {
            isDivisor(tree.getRightOperand());
        }
        return super.visitBinary(tree, none);
    }

    @Override
    public Void visitCompoundAssignment(CompoundAssignmentTree tree, Void none) {
        if (tree.getKind() == Tree.Kind.DIVIDE_ASSIGNMENT || tree.getKind() == Tree.Kind.REMAINDER_ASSIGNMENT) {
            isDivisor(tree.getExpression());
        }
        return super.visitCompoundAssignment(tree, none);
    }

    private void isDivisor(ExpressionTree divisor) {
        Element named = trees.getElement(new TreePath(getCurrentPath(), divisor));
        Object value = named instanceof VariableElement ? ((VariableElement) named).getConstantValue() : null;
        boolean isWritten = divisor.getKind() == Tree.Kind.INT_LITERAL && !divisor.toString().equals("0");
        boolean isConstant = value instanceof Integer && (Integer) value != 0;
        boolean isCounter = false;
        for (TreePath path = getCurrentPath(); path != null && !isCounter; path = path.getParentPath()) {
            isCounter = path.getLeaf() instanceof ForLoopTree
                && ((ForLoopTree) path.getLeaf()).getCondition().toString().equals(divisor + " >= 1");
        }
        Check.due("R7 divides by " + divisor + at(divisor), isWritten || isConstant || isCounter, true);
    }

    @Override
    public Void visitForLoop(ForLoopTree tree, Void none) {
        hasBound(tree.getCondition(), tree);
        Check.due("R9 a step" + at(tree), tree.getUpdate().size(), 1);
        return super.visitForLoop(tree, none);
    }

    @Override
    public Void visitWhileLoop(WhileLoopTree tree, Void none) {
        hasBound(tree.getCondition(), tree);
        return super.visitWhileLoop(tree, none);
    }

    @Override
    public Void visitDoWhileLoop(DoWhileLoopTree tree, Void none) {
        hasBound(tree.getCondition(), tree);
        return super.visitDoWhileLoop(tree, none);
    }

    /** Rule 9: a loop goes on only while a counter is within a bound. */
    private void hasBound(ExpressionTree condition, Tree tree) {
        Check.due("R9 a counter against a bound" + at(tree), isWithinBound(condition), true);
    }

    private boolean isWithinBound(Tree condition) {
        if (condition instanceof ParenthesizedTree) {
            return isWithinBound(((ParenthesizedTree) condition).getExpression());
        }
        if (!(condition instanceof BinaryTree)) {
            return false;
        }
        BinaryTree both = (BinaryTree) condition;
        switch (both.getKind()) {
            case CONDITIONAL_AND: return isWithinBound(both.getLeftOperand()) || isWithinBound(both.getRightOperand());
            case LESS_THAN: case LESS_THAN_EQUAL: case GREATER_THAN: case GREATER_THAN_EQUAL: return true;
            default: return false;
        }
    }

    @Override
    public Void visitEnhancedForLoop(EnhancedForLoopTree tree, Void none) {
        boolean isArray = trees.getTypeMirror(new TreePath(getCurrentPath(), tree.getExpression())).getKind()
            == TypeKind.ARRAY;
        Check.due("R10 for over an array" + at(tree), isArray, true);
        return super.visitEnhancedForLoop(tree, none);
    }

    @Override
    public Void visitLambdaExpression(LambdaExpressionTree tree, Void none) {
        return ruledOut("R2 a lambda", tree);
    }

    @Override
    public Void visitMemberReference(MemberReferenceTree tree, Void none) {
        return ruledOut("R2 a method reference", tree);
    }

    @Override
    public Void visitThrow(ThrowTree tree, Void none) {
        return ruledOut("R6 throw", tree);
    }

    @Override
    public Void visitTry(TryTree tree, Void none) {
        return ruledOut("R6 try", tree);
    }

    @Override
    public Void visitSynchronized(SynchronizedTree tree, Void none) {
        return ruledOut("R6 synchronized", tree);
    }

    @Override
    public Void visitAssert(AssertTree tree, Void none) {
        return ruledOut("R6 assert", tree);
    }

    @Override
    public Void visitInstanceOf(InstanceOfTree tree, Void none) {
        return ruledOut("R6 instanceof", tree);
    }
}
