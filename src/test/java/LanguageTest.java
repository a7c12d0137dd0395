import com.sun.source.tree.AssertTree;
import com.sun.source.tree.BinaryTree;
import com.sun.source.tree.ClassTree;
import com.sun.source.tree.CompilationUnitTree;
import com.sun.source.tree.ImportTree;
import com.sun.source.tree.LambdaExpressionTree;
import com.sun.source.tree.MemberReferenceTree;
import com.sun.source.tree.MemberSelectTree;
import com.sun.source.tree.MethodInvocationTree;
import com.sun.source.tree.MethodTree;
import com.sun.source.tree.NewClassTree;
import com.sun.source.tree.SynchronizedTree;
import com.sun.source.tree.ThrowTree;
import com.sun.source.tree.Tree;
import com.sun.source.tree.TryTree;
import com.sun.source.tree.VariableTree;
import com.sun.source.util.JavacTask;
import com.sun.source.util.TreePath;
import com.sun.source.util.TreePathScanner;
import com.sun.source.util.Trees;
import java.io.File;
import java.util.Arrays;
import java.util.Collections;
import java.util.HashMap;
import java.util.HashSet;
import java.util.LinkedHashSet;
import java.util.List;
import java.util.Map;
import java.util.Set;
import javax.lang.model.element.Element;
import javax.lang.model.element.ElementKind;
import javax.lang.model.element.ExecutableElement;
import javax.lang.model.element.Modifier;
import javax.tools.JavaCompiler;
import javax.tools.StandardJavaFileManager;
import javax.tools.ToolProvider;

/** The rules of LANGUAGE.md that the compiler's own tree can tell; it runs from the project's root. */
public final class LanguageTest extends TreePathScanner<Void, Void> {
    private static final String SOURCE = "src/main/java/DutyDesk.java";
    private static final Set<String> LIBRARY = new HashSet<>(Arrays.asList(
        "java.util.Arrays.fill", "java.lang.System.arraycopy", "java.lang.Integer.bitCount", "java.lang.Math.min",
        "java.lang.Math.max", "java.lang.String.length", "java.lang.String.charAt"));

    private final Due d = new Due();
    private final Trees trees;
    private final CompilationUnitTree unit;
    private final Map<Element, Set<Element>> calls = new HashMap<>();
    private Element method;
    private int classes;

    private LanguageTest(Trees trees, CompilationUnitTree unit) {
        this.trees = trees;
        this.unit = unit;
    }

    public static void main(String[] args) throws Exception {
        JavaCompiler compiler = ToolProvider.getSystemJavaCompiler();
        try (StandardJavaFileManager files = compiler.getStandardFileManager(null, null, null)) {
            JavacTask task = (JavacTask) compiler.getTask(null, files, null, List.of("-proc:none"), null,
                files.getJavaFileObjects(new File(SOURCE)));
            CompilationUnitTree unit = task.parse().iterator().next();
            task.analyze();
            LanguageTest test = new LanguageTest(Trees.instance(task), unit);
            test.scan(unit, null);
            test.depths();
            test.d.holds("at most twelve classes", test.classes <= 12);
            test.d.holds("no package", unit.getPackageName() == null);
            test.d.finish();
        }
    }

    private void not(Tree tree, String what) {
        long line = unit.getLineMap().getLineNumber(trees.getSourcePositions().getStartPosition(unit, tree));
        d.holds("no " + what + ", line " + line, false);
    }

    @Override
    public Void visitImport(ImportTree tree, Void v) {
        String name = tree.getQualifiedIdentifier().toString();
        if (!name.equals("java.util.Arrays")) {
            not(tree, "import of " + name);
        }
        return null;
    }

    @Override
    public Void visitClass(ClassTree tree, Void v) {
        classes++;
        int fields = 0;
        for (Tree member : tree.getMembers()) {
            if (member instanceof VariableTree) {
                Set<Modifier> is = ((VariableTree) member).getModifiers().getFlags();
                fields += is.contains(Modifier.STATIC) ? 0 : 1;
                if (is.contains(Modifier.STATIC) && !is.contains(Modifier.FINAL)) {
                    not(member, "static field that changes");
                }
            }
        }
        d.holds(tree.getSimpleName() + " has at most twenty fields", fields <= 20);
        return super.visitClass(tree, v);
    }

    @Override
    public Void visitMethod(MethodTree tree, Void v) {
        long first = unit.getLineMap().getLineNumber(trees.getSourcePositions().getStartPosition(unit, tree));
        long last = unit.getLineMap().getLineNumber(trees.getSourcePositions().getEndPosition(unit, tree));
        d.holds(tree.getName() + " has at most sixty lines", last - first < 60);
        d.holds(tree.getName() + " has at most seven parameters", tree.getParameters().size() <= 7);
        method = trees.getElement(getCurrentPath());
        calls.put(method, new LinkedHashSet<>());
        super.visitMethod(tree, v);
        method = null;
        return null;
    }

    @Override
    public Void visitMethodInvocation(MethodInvocationTree tree, Void v) {
        Element called = trees.getElement(getCurrentPath());
        if (called instanceof ExecutableElement && !called.getSimpleName().contentEquals("<init>")) {
            String owner = called.getEnclosingElement().toString();
            if (owner.startsWith("java.") && !LIBRARY.contains(owner + "." + called.getSimpleName())) {
                not(tree, "call of " + owner + "." + called.getSimpleName());
            }
            if (method != null) {
                calls.get(method).add(called);
            }
        }
        return super.visitMethodInvocation(tree, v);
    }

    @Override
    public Void visitMemberSelect(MemberSelectTree tree, Void v) {
        Element named = trees.getElement(getCurrentPath());
        if (named != null && named.getKind() == ElementKind.FIELD
            && String.valueOf(named.getEnclosingElement()).startsWith("java.")) {
            not(tree, "constant of the library, as " + tree);
        }
        return super.visitMemberSelect(tree, v);
    }

    @Override
    public Void visitNewClass(NewClassTree tree, Void v) {
        if (tree.getClassBody() != null) {
            not(tree, "anonymous class");
        }
        if (method != null) {
            calls.get(method).add(trees.getElement(getCurrentPath()));
        }
        return super.visitNewClass(tree, v);
    }

    @Override
    public Void visitBinary(BinaryTree tree, Void v) {
        String left = String.valueOf(trees.getTypeMirror(new TreePath(getCurrentPath(), tree.getLeftOperand())));
        if (left.equals("java.lang.String")) {
            not(tree, "+ or == of texts");
        }
        if (tree.getKind() == Tree.Kind.DIVIDE || tree.getKind() == Tree.Kind.REMAINDER) {
            not(tree, "divisor that was not looked at");
        }
        return super.visitBinary(tree, v);
    }

    @Override
    public Void visitThrow(ThrowTree tree, Void v) {
        not(tree, "throw");
        return null;
    }

    @Override
    public Void visitTry(TryTree tree, Void v) {
        not(tree, "try");
        return null;
    }

    @Override
    public Void visitAssert(AssertTree tree, Void v) {
        not(tree, "assert");
        return null;
    }

    @Override
    public Void visitSynchronized(SynchronizedTree tree, Void v) {
        not(tree, "synchronized");
        return null;
    }

    @Override
    public Void visitLambdaExpression(LambdaExpressionTree tree, Void v) {
        not(tree, "lambda");
        return null;
    }

    @Override
    public Void visitMemberReference(MemberReferenceTree tree, Void v) {
        not(tree, "method reference");
        return null;
    }

    /** Calls go at most eight deep, the public one and the library's counted; none comes back to itself. */
    private void depths() {
        for (Element m : calls.keySet()) {
            if (m.getModifiers().contains(Modifier.PUBLIC)) {
                int deep = depth(m, new LinkedHashSet<>());
                d.holds(m + " goes " + deep + " deep", deep <= 8);
            }
        }
    }

    private int depth(Element m, Set<Element> open) {
        if (open.contains(m)) {
            d.holds(m + " is no recursion: " + open, false);
            return 0;
        }
        Set<Element> now = new LinkedHashSet<>(open);
        now.add(m);
        int deepest = 0;
        for (Element called : calls.getOrDefault(m, Collections.emptySet())) {
            deepest = Math.max(deepest, depth(called, now));
        }
        return deepest + 1;
    }
}
