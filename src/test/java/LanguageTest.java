import com.sun.source.tree.AssertTree;
import com.sun.source.tree.AssignmentTree;
import com.sun.source.tree.BinaryTree;
import com.sun.source.tree.BlockTree;
import com.sun.source.tree.ClassTree;
import com.sun.source.tree.CompilationUnitTree;
import com.sun.source.tree.CompoundAssignmentTree;
import com.sun.source.tree.DoWhileLoopTree;
import com.sun.source.tree.EnhancedForLoopTree;
import com.sun.source.tree.ExpressionTree;
import com.sun.source.tree.ForLoopTree;
import com.sun.source.tree.ImportTree;
import com.sun.source.tree.InstanceOfTree;
import com.sun.source.tree.LambdaExpressionTree;
import com.sun.source.tree.MemberReferenceTree;
import com.sun.source.tree.MemberSelectTree;
import com.sun.source.tree.MethodInvocationTree;
import com.sun.source.tree.MethodTree;
import com.sun.source.tree.NewArrayTree;
import com.sun.source.tree.NewClassTree;
import com.sun.source.tree.ParenthesizedTree;
import com.sun.source.tree.SynchronizedTree;
import com.sun.source.tree.ThrowTree;
import com.sun.source.tree.Tree;
import com.sun.source.tree.TryTree;
import com.sun.source.tree.TypeCastTree;
import com.sun.source.tree.UnaryTree;
import com.sun.source.tree.VariableTree;
import com.sun.source.tree.WhileLoopTree;
import com.sun.source.util.JavacTask;
import com.sun.source.util.TreePath;
import com.sun.source.util.TreePathScanner;
import com.sun.source.util.Trees;
import java.io.File;
import java.util.Collections;
import java.util.HashMap;
import java.util.LinkedHashSet;
import java.util.List;
import java.util.Map;
import java.util.Set;
import javax.lang.model.element.Element;
import javax.lang.model.element.ElementKind;
import javax.lang.model.element.ExecutableElement;
import javax.lang.model.element.Modifier;
import javax.lang.model.type.DeclaredType;
import javax.lang.model.type.TypeMirror;
import javax.tools.JavaCompiler;
import javax.tools.StandardJavaFileManager;
import javax.tools.ToolProvider;

/**
 * The rules of LANGUAGE.md that the compiler's own tree can tell, each fault with its rule's number;
 * it runs from the project's root. Where the rules allow more than the class uses, what is allowed
 * here is what it uses. The rest: FaceTest has rule 1, AnyCallTest rule 7, RoomTest rule 12's count.
 */
public final class LanguageTest extends TreePathScanner<Void, Void> {
    private static final String SOURCE = "src/main/java/DutyDesk.java";
    private static final Set<String> LIBRARY = Set.of(
        "java.util.Arrays.fill", "java.lang.System.arraycopy", "java.lang.Integer.bitCount", "java.lang.Math.min",
        "java.lang.Math.max", "java.lang.String.length", "java.lang.String.charAt");
    private static final Set<String> TYPES = Set.of(
        "int", "long", "byte", "boolean", "int[]", "long[]", "byte[]", "int[][]", "java.lang.String");
    private static final Set<String> CONSTANT_TYPES = Set.of("int", "long", "boolean", "char", "java.lang.String");
    private static final Set<String> CONSTANT_ROWS = Set.of("int[]", "long[]", "char[]", "byte[]");
    private static final Set<String> OF_OBJECTS = Set.of("equals", "hashCode", "toString", "finalize", "clone");
    private static final Set<Tree.Kind> COMPARISONS = Set.of(
        Tree.Kind.LESS_THAN, Tree.Kind.LESS_THAN_EQUAL, Tree.Kind.GREATER_THAN, Tree.Kind.GREATER_THAN_EQUAL);

    private final Due d = new Due();
    private final Trees trees;
    private final CompilationUnitTree unit;
    private final Map<Element, Set<Element>> calls = new HashMap<>();
    private Element method;
    private int classes;
    private int openClasses;
    private int openLoops;

    private LanguageTest(Trees trees, CompilationUnitTree unit) {
        this.trees = trees;
        this.unit = unit;
    }

    public static void main(String[] args) throws Exception {
        JavaCompiler compiler = ToolProvider.getSystemJavaCompiler();
        try (StandardJavaFileManager files = compiler.getStandardFileManager(null, null, null)) {
            JavacTask task = (JavacTask) compiler.getTask(null, files, null, List.of("-proc:none"), null,
                files.getJavaFileObjects(new File(args.length > 0 ? args[0] : SOURCE)));
            CompilationUnitTree unit = task.parse().iterator().next();
            task.analyze();
            LanguageTest test = new LanguageTest(Trees.instance(task), unit);
            test.scan(unit, null);
            test.depths();
            test.holds(11, "at most twelve classes", test.classes <= 12);
            test.holds(1, "no package", unit.getPackageName() == null);
            test.holds(1, "one class at the top", unit.getTypeDecls().size() == 1);
            test.d.finish();
        }
    }

    private void holds(int rule, String what, boolean is) {
        d.holds("rule " + rule + ": " + what, is);
    }

    private void not(int rule, Tree tree, String what) {
        holds(rule, "no " + what + ", line " + line(trees.getSourcePositions().getStartPosition(unit, tree)), false);
    }

    private long line(long position) {
        return unit.getLineMap().getLineNumber(position);
    }

    /** A constant's type would print its value too, so a class is named by its element. */
    private String typeOf(Tree tree) {
        TypeMirror type = trees.getTypeMirror(new TreePath(getCurrentPath(), tree));
        return type instanceof DeclaredType ? ((DeclaredType) type).asElement().toString() : String.valueOf(type);
    }

    @Override
    public Void visitImport(ImportTree tree, Void v) {
        String name = tree.getQualifiedIdentifier().toString();
        if (!name.equals("java.util.Arrays")) {
            not(4, tree, "import of " + name);
        }
        return null;
    }

    @Override
    public Void visitClass(ClassTree tree, Void v) {
        classes++;
        if (openClasses > 0 && !tree.getModifiers().getFlags().contains(Modifier.STATIC)) {
            not(2, tree, "class inside that is not static");
        }
        if (openClasses > 1 || method != null) {
            not(2, tree, "class inside a class inside, or inside a method");
        }
        int fields = 0;
        for (Tree member : tree.getMembers()) {
            if (member instanceof BlockTree) {
                not(5, member, "initialiser block");
            }
            if (member instanceof VariableTree) {
                fields += isStatic((VariableTree) member) ? 0 : 1;
            }
        }
        holds(11, tree.getSimpleName() + " has at most twenty fields", fields <= 20);
        openClasses++;
        super.visitClass(tree, v);
        openClasses--;
        return null;
    }

    private static boolean isStatic(VariableTree tree) {
        return tree.getModifiers().getFlags().contains(Modifier.STATIC);
    }

    @Override
    public Void visitVariable(VariableTree tree, Void v) {
        String type = typeOf(tree.getType());
        if (!isAllowed(type)) {
            not(3, tree, "type " + type);
        }
        if (isStatic(tree)) {
            boolean isRow = CONSTANT_ROWS.contains(type) && tree.getInitializer() instanceof NewArrayTree
                && ((NewArrayTree) tree.getInitializer()).getInitializers() != null;
            if (!isRow && !CONSTANT_TYPES.contains(type)) {
                not(5, tree, "static field of type " + type + " or not written out");
            }
            if (!tree.getModifiers().getFlags().contains(Modifier.FINAL)) {
                not(5, tree, "static field that changes");
            }
        }
        return super.visitVariable(tree, v);
    }

    private static boolean isAllowed(String type) {
        return TYPES.contains(type) || type.startsWith("DutyDesk.") && !type.endsWith("[][]");
    }

    @Override
    public Void visitAssignment(AssignmentTree tree, Void v) {
        noConstantRow(tree.getVariable());
        return super.visitAssignment(tree, v);
    }

    @Override
    public Void visitCompoundAssignment(CompoundAssignmentTree tree, Void v) {
        noConstantRow(tree.getVariable());
        if (typeOf(tree.getVariable()).equals("java.lang.String")) {
            not(10, tree, "texts joined by +=");
        }
        return super.visitCompoundAssignment(tree, v);
    }

    @Override
    public Void visitUnary(UnaryTree tree, Void v) {
        if (tree.getKind() == Tree.Kind.POSTFIX_INCREMENT || tree.getKind() == Tree.Kind.POSTFIX_DECREMENT
            || tree.getKind() == Tree.Kind.PREFIX_INCREMENT || tree.getKind() == Tree.Kind.PREFIX_DECREMENT) {
            noConstantRow(tree.getExpression());
        }
        return super.visitUnary(tree, v);
    }

    /** By their spelling: what is all capitals is a constant. */
    private void noConstantRow(ExpressionTree changed) {
        if (changed.getKind() == Tree.Kind.ARRAY_ACCESS && changed.toString().matches("[A-Z_]+\\[.*")) {
            not(5, changed, "change of a constant row");
        }
    }

    @Override
    public Void visitMethod(MethodTree tree, Void v) {
        long first = line(trees.getSourcePositions().getStartPosition(unit, tree));
        long last = line(trees.getSourcePositions().getEndPosition(unit, tree));
        holds(11, tree.getName() + " has at most sixty lines", last - first < 60);
        holds(11, tree.getName() + " has at most seven parameters", tree.getParameters().size() <= 7);
        holds(6, tree.getName() + " is none of every object's", !OF_OBJECTS.contains(tree.getName().toString()));
        if (tree.getReturnType() != null) {
            String type = typeOf(tree.getReturnType());
            holds(3, tree.getName() + " answers " + type, type.equals("void") || isAllowed(type));
        }
        method = trees.getElement(getCurrentPath());
        calls.put(method, new LinkedHashSet<>());
        super.visitMethod(tree, v);
        method = null;
        return null;
    }

    @Override
    public Void visitMethodInvocation(MethodInvocationTree tree, Void v) {
        Element called = trees.getElement(getCurrentPath());
        if (called instanceof ExecutableElement && !called.getSimpleName().contentEquals("<init>")) {
            String owner = called.getEnclosingElement().toString();
            if (owner.startsWith("java.") && !LIBRARY.contains(owner + "." + called.getSimpleName())) {
                not(4, tree, "call of " + owner + "." + called.getSimpleName());
            }
            if (method != null) {
                calls.get(method).add(called);
            }
        }
        return super.visitMethodInvocation(tree, v);
    }

    @Override
    public Void visitMemberSelect(MemberSelectTree tree, Void v) {
        Element named = trees.getElement(getCurrentPath());
        if (named != null && named.getKind() == ElementKind.FIELD
            && String.valueOf(named.getEnclosingElement()).startsWith("java.")) {
            not(4, tree, "constant of the library, as " + tree);
        }
        return super.visitMemberSelect(tree, v);
    }

    @Override
    public Void visitNewClass(NewClassTree tree, Void v) {
        if (tree.getClassBody() != null) {
            not(2, tree, "anonymous class");
        }
        if (!typeOf(tree.getIdentifier()).startsWith("DutyDesk.")) {
            not(4, tree, "object of the library");
        }
        if (openLoops > 0 || isPlainMethod() && !method.getSimpleName().contentEquals("call")) {
            not(12, tree, "object made but in constructors and by call()");
        }
        if (method != null) {
            calls.get(method).add(trees.getElement(getCurrentPath()));
        }
        return super.visitNewClass(tree, v);
    }

    @Override
    public Void visitNewArray(NewArrayTree tree, Void v) {
        if (isPlainMethod()) {
            not(12, tree, "row made but in constructors");
        }
        return super.visitNewArray(tree, v);
    }

    private boolean isPlainMethod() {
        return method != null && method.getKind() != ElementKind.CONSTRUCTOR;
    }

    @Override
    public Void visitBinary(BinaryTree tree, Void v) {
        if (typeOf(tree.getLeftOperand()).equals("java.lang.String")
            || typeOf(tree.getRightOperand()).equals("java.lang.String")) {
            not(10, tree, "+ or == of texts");
        }
        if (tree.getKind() == Tree.Kind.DIVIDE || tree.getKind() == Tree.Kind.REMAINDER) {
            not(7, tree, "divisor that was not looked at");
        }
        return super.visitBinary(tree, v);
    }

    @Override
    public Void visitTypeCast(TypeCastTree tree, Void v) {
        if (!Set.of("int", "byte", "long").contains(typeOf(tree.getType()))) {
            not(6, tree, "cast of an object");
        }
        return super.visitTypeCast(tree, v);
    }

    @Override
    public Void visitInstanceOf(InstanceOfTree tree, Void v) {
        not(6, tree, "instanceof");
        return super.visitInstanceOf(tree, v);
    }

    @Override
    public Void visitThrow(ThrowTree tree, Void v) {
        not(6, tree, "throw");
        return null;
    }

    @Override
    public Void visitTry(TryTree tree, Void v) {
        not(6, tree, "try");
        return null;
    }

    @Override
    public Void visitAssert(AssertTree tree, Void v) {
        not(6, tree, "assert");
        return null;
    }

    @Override
    public Void visitSynchronized(SynchronizedTree tree, Void v) {
        not(6, tree, "synchronized");
        return null;
    }

    @Override
    public Void visitLambdaExpression(LambdaExpressionTree tree, Void v) {
        not(2, tree, "lambda");
        return null;
    }

    @Override
    public Void visitMemberReference(MemberReferenceTree tree, Void v) {
        not(2, tree, "method reference");
        return null;
    }

    @Override
    public Void visitForLoop(ForLoopTree tree, Void v) {
        if (tree.getCondition() == null || tree.getUpdate().isEmpty() || !isBounded(tree.getCondition())) {
            not(9, tree, "for without a counter and a bound");
        }
        openLoops++;
        super.visitForLoop(tree, v);
        openLoops--;
        return null;
    }

    @Override
    public Void visitWhileLoop(WhileLoopTree tree, Void v) {
        if (!isBounded(tree.getCondition())) {
            not(9, tree, "while without a bound");
        }
        openLoops++;
        super.visitWhileLoop(tree, v);
        openLoops--;
        return null;
    }

    @Override
    public Void visitDoWhileLoop(DoWhileLoopTree tree, Void v) {
        not(9, tree, "do, whose end was not looked at");
        return super.visitDoWhileLoop(tree, v);
    }

    @Override
    public Void visitEnhancedForLoop(EnhancedForLoopTree tree, Void v) {
        openLoops++;
        super.visitEnhancedForLoop(tree, v);
        openLoops--;
        return null;
    }

    /** A comparison stands first: what else ends the loop comes behind it. */
    private static boolean isBounded(ExpressionTree condition) {
        ExpressionTree first = condition;
        while (first.getKind() == Tree.Kind.PARENTHESIZED) {
            first = ((ParenthesizedTree) first).getExpression();
        }
        while (first.getKind() == Tree.Kind.CONDITIONAL_AND) {
            first = ((BinaryTree) first).getLeftOperand();
        }
        return COMPARISONS.contains(first.getKind());
    }

    /** Calls go at most eight deep, the public one and the library's counted; none comes back to itself. */
    private void depths() {
        for (Element m : calls.keySet()) {
            if (m.getModifiers().contains(Modifier.PUBLIC)) {
                int deep = depth(m, new LinkedHashSet<>());
                holds(11, m + " goes " + deep + " deep", deep <= 8);
            }
        }
    }

    private int depth(Element m, Set<Element> open) {
        if (open.contains(m)) {
            holds(8, m + " is no recursion: " + open, false);
            return 0;
        }
        Set<Element> now = new LinkedHashSet<>(open);
        now.add(m);
        int deepest = 0;
        for (Element called : calls.getOrDefault(m, Collections.emptySet())) {
            deepest = Math.max(deepest, depth(called, now));
        }
        return deepest + 1;
    }
}
