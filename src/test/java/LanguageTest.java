import com.sun.source.tree.AssertTree;
import com.sun.source.tree.ClassTree;
import com.sun.source.tree.CompilationUnitTree;
import com.sun.source.tree.ImportTree;
import com.sun.source.tree.LambdaExpressionTree;
import com.sun.source.tree.MemberReferenceTree;
import com.sun.source.tree.MethodInvocationTree;
import com.sun.source.tree.MethodTree;
import com.sun.source.tree.NewArrayTree;
import com.sun.source.tree.NewClassTree;
import com.sun.source.tree.SynchronizedTree;
import com.sun.source.tree.ThrowTree;
import com.sun.source.tree.Tree;
import com.sun.source.tree.TryTree;
import com.sun.source.tree.VariableTree;
import com.sun.source.util.JavacTask;
import com.sun.source.util.TreePath;
import com.sun.source.util.TreePathScanner;
import com.sun.source.util.Trees;
import java.io.File;
import java.util.HashMap;
import java.util.HashSet;
import java.util.List;
import java.util.Map;
import java.util.Set;
import java.util.TreeSet;
import javax.lang.model.element.Element;
import javax.lang.model.element.Modifier;
import javax.tools.JavaCompiler;
import javax.tools.StandardJavaFileManager;
import javax.tools.ToolProvider;

/** The rules of LANGUAGE.md that can be seen in the text of the program, as javac reads it. */
public final class LanguageTest extends TreePathScanner<Void, Void> {
    private static final Set<String> LIBRARY = Set.of(
            "Long.compare", "Long.numberOfLeadingZeros", "Long.numberOfTrailingZeros",
            "Math.abs", "Math.max", "Math.min", "Math.floorMod");
    private static final Set<String> EXCEPTIONS = Set.of("IllegalStateException", "IllegalArgumentException",
            "IndexOutOfBoundsException", "ArithmeticException", "NoSuchElementException");
    private static final int MOST_PARAMETERS = 7;
    private static final int MOST_LINES = 60;
    private static final int MOST_DEPTH = 8;
    private static final int MOST_CLASSES = 12;
    private static final int MOST_FIELDS = 20;

    private final Trees trees;
    private final CompilationUnitTree unit;
    private final Map<Element, Set<Element>> calls = new HashMap<>();
    private int classes = 0;

    private LanguageTest(Trees trees, CompilationUnitTree unit) {
        this.trees = trees;
        this.unit = unit;
    }

    public static void main(String[] args) throws Exception {
        JavaCompiler compiler = ToolProvider.getSystemJavaCompiler();
        StandardJavaFileManager files = compiler.getStandardFileManager(null, null, null);
        JavacTask task = (JavacTask) compiler.getTask(null, files, null, List.of("-proc:none"), null,
                files.getJavaFileObjects(new File("src/main/java/Doubleline.java")));
        CompilationUnitTree unit = task.parse().iterator().next();
        task.analyze();
        LanguageTest test = new LanguageTest(Trees.instance(task), unit);
        test.scan(unit, null);
        Check.due("rule 11: more classes than " + MOST_CLASSES, test.classes > MOST_CLASSES, false);
        for (Element method : test.calls.keySet()) {
            int depth = test.depth(method, new HashSet<>());
            Check.due("rule 11: calls of " + method + " are " + depth + " deep, too deep", depth > MOST_DEPTH, false);
        }
        Check.finish();
    }

    @Override
    public Void visitImport(ImportTree tree, Void none) {
        Check.due("rule 4: " + tree, tree.getQualifiedIdentifier().toString().equals("java.util.NoSuchElementException"),
                true);
        return super.visitImport(tree, none);
    }

    @Override
    public Void visitClass(ClassTree tree, Void none) {
        classes++;
        boolean isInside = getCurrentPath().getParentPath().getLeaf().getKind() == Tree.Kind.CLASS;
        Check.due("rules 1, 2: " + tree.getSimpleName() + " stands inside", isInside, classes > 1);
        Check.due("rule 2: " + tree.getSimpleName() + " is static and private",
                tree.getModifiers().getFlags().containsAll(Set.of(Modifier.STATIC, Modifier.PRIVATE)), isInside);
        Set<String> open = new TreeSet<>();
        Set<String> hidden = new TreeSet<>();
        int fields = 0;
        for (Tree member : tree.getMembers()) {
            if (member instanceof MethodTree) {
                MethodTree method = (MethodTree) member;
                boolean isPrivate = method.getModifiers().getFlags().contains(Modifier.PRIVATE);
                (isPrivate ? hidden : open).add(method.getName().toString());
            } else if (member instanceof VariableTree) {
                Set<Modifier> flags = ((VariableTree) member).getModifiers().getFlags();
                fields += flags.contains(Modifier.STATIC) ? 0 : 1;
                Check.due("rule 5: " + member + " is static and changes",
                        flags.contains(Modifier.STATIC) && !flags.contains(Modifier.FINAL), false);
            } else {
                Check.due("rule 5: a block in " + tree.getSimpleName(), member.getKind() == Tree.Kind.BLOCK, false);
            }
        }
        hidden.retainAll(open);
        Check.due("rule 1: " + hidden + " are private and open", hidden.isEmpty(), true);
        Check.due("rule 11: fields of " + tree.getSimpleName(), fields > MOST_FIELDS, false);
        return super.visitClass(tree, none);
    }

    @Override
    public Void visitMethod(MethodTree tree, Void none) {
        calls.putIfAbsent(trees.getElement(getCurrentPath()), new HashSet<>());
        long lines = tree.toString().lines().count();
        Check.due("rule 11: lines of " + tree.getName(), lines > MOST_LINES, false);
        Check.due("rule 11: parameters of " + tree.getName(), tree.getParameters().size() > MOST_PARAMETERS, false);
        return super.visitMethod(tree, none);
    }

    @Override
    public Void visitMethodInvocation(MethodInvocationTree tree, Void none) {
        String called = tree.getMethodSelect().toString();
        Element method = trees.getElement(new TreePath(getCurrentPath(), tree.getMethodSelect()));
        if (trees.getTree(method) != null) {
            calls.computeIfAbsent(enclosing(), key -> new HashSet<>()).add(method);
        } else if (!called.equals("super")) {
            Check.due("rule 4: " + called + " is in the library that is left", LIBRARY.contains(called), true);
        }
        return super.visitMethodInvocation(tree, none);
    }

    @Override
    public Void visitNewClass(NewClassTree tree, Void none) {
        boolean isThrown = getCurrentPath().getParentPath().getLeaf() instanceof ThrowTree;
        String name = tree.getIdentifier().toString();
        Check.due("rule 6: " + tree + " is thrown", isThrown, EXCEPTIONS.contains(name));
        Check.due("rule 12: " + tree + " is made where none is thrown", isThrown || isInConstructor(), true);
        Check.due("rule 2: " + tree + " has a body", tree.getClassBody() != null, false);
        for (Tree argument : tree.getArguments()) {
            Check.due("rule 6: the text of " + tree, argument.getKind() == Tree.Kind.STRING_LITERAL, isThrown);
        }
        return super.visitNewClass(tree, none);
    }

    @Override
    public Void visitNewArray(NewArrayTree tree, Void none) {
        Check.due("rule 12: " + tree + " is made in a constructor", isInConstructor(), true);
        return super.visitNewArray(tree, none);
    }

    @Override
    public Void visitThrow(ThrowTree tree, Void none) {
        Check.due("rule 6: " + tree + " in a constructor", isInConstructor(), false);
        Check.due("rule 6: " + tree + " throws a new one", tree.getExpression() instanceof NewClassTree, true);
        return super.visitThrow(tree, none);
    }

    @Override
    public Void visitTry(TryTree tree, Void none) {
        return refused("no call is answered by catching", tree);
    }

    @Override
    public Void visitLambdaExpression(LambdaExpressionTree tree, Void none) {
        return refused("rule 2", tree);
    }

    @Override
    public Void visitMemberReference(MemberReferenceTree tree, Void none) {
        return refused("rule 2", tree);
    }

    @Override
    public Void visitSynchronized(SynchronizedTree tree, Void none) {
        return refused("rule 6", tree);
    }

    @Override
    public Void visitAssert(AssertTree tree, Void none) {
        return refused("rule 6", tree);
    }

    private static Void refused(String rule, Tree tree) {
        Check.report(rule + ": " + tree);
        return null;
    }

    private boolean isInConstructor() {
        Element method = enclosing();
        return method != null && method.getSimpleName().contentEquals("<init>");
    }

    /** The method that the scan is in, null for a field. */
    private Element enclosing() {
        for (TreePath path = getCurrentPath(); path != null; path = path.getParentPath()) {
            if (path.getLeaf() instanceof MethodTree) {
                return trees.getElement(path);
            }
        }
        return null;
    }

    /** How many calls of the program's own stand open at most; a call that comes back to itself is too deep. */
    private int depth(Element method, Set<Element> open) {
        if (!open.add(method)) {
            return MOST_DEPTH + 1;
        }
        int deepest = 0;
        for (Element called : calls.getOrDefault(method, Set.of())) {
            deepest = Math.max(deepest, depth(called, open));
        }
        open.remove(method);
        return deepest + 1;
    }
}
