import com.sun.source.tree.BinaryTree;
import com.sun.source.tree.BlockTree;
import com.sun.source.tree.ClassTree;
import com.sun.source.tree.CompilationUnitTree;
import com.sun.source.tree.CompoundAssignmentTree;
import com.sun.source.tree.DoWhileLoopTree;
import com.sun.source.tree.ExpressionStatementTree;
import com.sun.source.tree.ExpressionTree;
import com.sun.source.tree.ForLoopTree;
import com.sun.source.tree.LiteralTree;
import com.sun.source.tree.MethodInvocationTree;
import com.sun.source.tree.MethodTree;
import com.sun.source.tree.NewClassTree;
import com.sun.source.tree.ParenthesizedTree;
import com.sun.source.tree.ThrowTree;
import com.sun.source.tree.Tree;
import com.sun.source.tree.TryTree;
import com.sun.source.tree.UnaryTree;
import com.sun.source.tree.VariableTree;
import com.sun.source.tree.WhileLoopTree;
import com.sun.source.util.JavacTask;
import com.sun.source.util.TreePath;
import com.sun.source.util.TreePathScanner;
import com.sun.source.util.Trees;
import java.io.IOException;
import java.nio.file.Path;
import java.util.HashSet;
import java.util.LinkedHashMap;
import java.util.LinkedHashSet;
import java.util.List;
import java.util.Map;
import java.util.Set;
import javax.lang.model.element.Element;
import javax.lang.model.element.Modifier;
import javax.lang.model.type.TypeMirror;
import javax.tools.JavaCompiler;
import javax.tools.StandardJavaFileManager;
import javax.tools.ToolProvider;

/** What of LANGUAGE.md can be read off the source: words, library, exceptions, loops, sizes, depth of calls. */
public final class LanguageTest extends TreePathScanner<Void, Void> {
    private static final Path SOURCE = Path.of("src/main/java/KeyCodec.java");
    private static final int MOST_LINES = 60;
    private static final int MOST_PARAMETERS = 7;
    private static final int MOST_CLASSES = 12;
    private static final int MOST_DEPTH = 8;
    private static final Set<String> LIBRARY = Set.of("java.lang.Math.abs", "java.lang.Math.min", "java.lang.Math.max",
            "java.lang.Integer.compare", "java.lang.Long.compare", "java.lang.System.arraycopy");
    private static final Set<String> THROWN = Set.of("IllegalStateException", "IllegalArgumentException",
            "IndexOutOfBoundsException", "ArithmeticException", "UnsupportedOperationException",
            "NoSuchElementException", "RuntimeException");
    /** Kinds of code that may not stand there, or (an import) do not yet, with the rule. */
    private static final Map<Tree.Kind, Integer> BANNED = Map.of(Tree.Kind.PACKAGE, 1, Tree.Kind.IMPORT, 4,
            Tree.Kind.LAMBDA_EXPRESSION, 2, Tree.Kind.MEMBER_REFERENCE, 2, Tree.Kind.SYNCHRONIZED, 6,
            Tree.Kind.ASSERT, 6);
    private static final Set<Tree.Kind> ORDERS = Set.of(Tree.Kind.LESS_THAN, Tree.Kind.LESS_THAN_EQUAL,
            Tree.Kind.GREATER_THAN, Tree.Kind.GREATER_THAN_EQUAL);
    private static final Set<String> CONSTANTS = Set.of("int", "long", "boolean", "java.lang.String");
    private static final Set<String> TYPES = Set.of("int", "long", "boolean", "int[]", "java.lang.String");

    private final Trees trees;
    private final CompilationUnitTree unit;
    private final Map<Element, Set<Element>> calls = new LinkedHashMap<>();
    private Element method = null;
    private int classes = 0;
    private int wrong = 0;

    private LanguageTest(Trees trees, CompilationUnitTree unit) {
        this.trees = trees;
        this.unit = unit;
    }

    public static void main(String[] args) throws IOException {
        JavaCompiler compiler = ToolProvider.getSystemJavaCompiler();
        try (StandardJavaFileManager files = compiler.getStandardFileManager(null, null, null)) {
            JavacTask task = (JavacTask) compiler.getTask(null, files, null, List.of("-proc:none"), null,
                    files.getJavaFileObjects(SOURCE));
            CompilationUnitTree unit = task.parse().iterator().next();
            task.analyze();
            LanguageTest test = new LanguageTest(Trees.instance(task), unit);
            test.scan(unit, null);
            test.checkDepth();
            test.end();
        }
    }

    private void end() {
        check(classes <= MOST_CLASSES, 11, classes + " classes", unit);
        check(!calls.isEmpty(), 1, "no method was read", unit);
        System.out.println(wrong == 0
                ? calls.size() + " methods keep to the language" : wrong + " things are outside it");
        if (wrong != 0) {
            System.exit(1);
        }
    }

    private void check(boolean holds, int rule, String what, Tree where) {
        if (!holds) {
            wrong++;
            System.out.println("rule " + rule + ", line " + lineOf(startOf(where)) + ": " + what);
        }
    }

    private long startOf(Tree tree) {
        return trees.getSourcePositions().getStartPosition(unit, tree);
    }

    private long lineOf(long position) {
        return position < 0 ? 0 : unit.getLineMap().getLineNumber(position);
    }

    private boolean isOwn(String name) {
        return name.equals("KeyCodec") || name.startsWith("KeyCodec.");
    }

    @Override
    public Void scan(Tree tree, Void nothing) {
        if (tree != null && BANNED.containsKey(tree.getKind())) {
            check(false, BANNED.get(tree.getKind()), tree.getKind() + ": " + tree, tree);
        }
        return super.scan(tree, nothing);
    }

    @Override
    public Void visitClass(ClassTree tree, Void nothing) {
        classes++;
        return super.visitClass(tree, nothing);
    }

    @Override
    public Void visitMethod(MethodTree tree, Void nothing) {
        method = trees.getElement(getCurrentPath());
        calls.put(method, new LinkedHashSet<>());
        long lines = lineOf(trees.getSourcePositions().getEndPosition(unit, tree)) - lineOf(startOf(tree)) + 1;
        check(lines <= MOST_LINES, 11, tree.getName() + " has " + lines + " lines", tree);
        check(tree.getParameters().size() <= MOST_PARAMETERS, 11, tree.getName() + " has many parameters", tree);
        super.visitMethod(tree, nothing);
        method = null;
        return null;
    }

    @Override
    public Void visitVariable(VariableTree tree, Void nothing) {
        String type = trees.getTypeMirror(new TreePath(getCurrentPath(), tree.getType())).toString();
        boolean own = isOwn(type.endsWith("[]") ? type.substring(0, type.length() - 2) : type);
        check(own || TYPES.contains(type), 3, "a type that this test does not know: " + type, tree);
        Set<Modifier> modifiers = tree.getModifiers().getFlags();
        check(!modifiers.contains(Modifier.STATIC) || modifiers.contains(Modifier.FINAL) && CONSTANTS.contains(type),
                5, "a static field that is no constant: " + tree, tree);
        return super.visitVariable(tree, nothing);
    }

    @Override
    public Void visitMethodInvocation(MethodInvocationTree tree, Void nothing) {
        addCall(trees.getElement(new TreePath(getCurrentPath(), tree.getMethodSelect())), tree);
        return super.visitMethodInvocation(tree, nothing);
    }

    @Override
    public Void visitNewClass(NewClassTree tree, Void nothing) {
        addCall(trees.getElement(getCurrentPath()), tree);
        check(tree.getClassBody() == null, 2, "an anonymous class", tree);
        return super.visitNewClass(tree, nothing);
    }

    private void addCall(Element called, Tree where) {
        String owner = called.getEnclosingElement().toString();
        String name = called.getSimpleName().toString();
        boolean isThrown = THROWN.contains(owner.substring(owner.lastIndexOf('.') + 1));
        // Each constructor begins with a call of Object's.
        boolean isObject = owner.equals("java.lang.Object") && name.equals("<init>");
        check(isOwn(owner) || isThrown || isObject || LIBRARY.contains(owner + "." + name), 4,
                "a call that this test does not know: " + owner + "." + name, where);
        if (isOwn(owner) && method != null) {
            calls.get(method).add(called);
        }
    }

    @Override
    public Void visitThrow(ThrowTree tree, Void nothing) {
        ExpressionTree thrown = tree.getExpression();
        boolean plain = thrown instanceof NewClassTree made && THROWN.contains(made.getIdentifier().toString())
                && (made.getArguments().isEmpty() || made.getArguments().get(0) instanceof LiteralTree);
        check(plain, 6, "a throw of another form: " + tree, tree);
        check(method != null && !method.getSimpleName().contentEquals("<init>"), 6, "a throw in a constructor", tree);
        return super.visitThrow(tree, nothing);
    }

    @Override
    public Void visitTry(TryTree tree, Void nothing) {
        check(tree.getFinallyBlock() == null && tree.getResources().isEmpty(), 6, "finally, or resources", tree);
        return super.visitTry(tree, nothing);
    }

    @Override
    public Void visitBinary(BinaryTree tree, Void nothing) {
        TypeMirror type = trees.getTypeMirror(getCurrentPath());
        check(type == null || !type.toString().equals("java.lang.String"), 10, "texts joined by +", tree);
        return super.visitBinary(tree, nothing);
    }

    @Override
    public Void visitWhileLoop(WhileLoopTree tree, Void nothing) {
        checkLoop(tree.getCondition(), List.of(tree.getStatement()), tree);
        return super.visitWhileLoop(tree, nothing);
    }

    @Override
    public Void visitDoWhileLoop(DoWhileLoopTree tree, Void nothing) {
        checkLoop(tree.getCondition(), List.of(tree.getStatement()), tree);
        return super.visitDoWhileLoop(tree, nothing);
    }

    @Override
    public Void visitForLoop(ForLoopTree tree, Void nothing) {
        checkLoop(tree.getCondition(), tree.getUpdate(), tree);
        return super.visitForLoop(tree, nothing);
    }

    /** A loop's own lines count a variable, which its condition holds against a bound. */
    private void checkLoop(ExpressionTree condition, List<? extends Tree> steps, Tree loop) {
        Set<String> counted = new HashSet<>();
        for (Tree step : steps) {
            counted.addAll(countedIn(step));
        }
        check(condition != null && isBound(condition, counted), 9, "no counter against a bound", loop);
    }

    private static boolean isBound(ExpressionTree condition, Set<String> counted) {
        if (condition instanceof ParenthesizedTree inner) {
            return isBound(inner.getExpression(), counted);
        }
        if (!(condition instanceof BinaryTree both)) {
            return false;
        }
        if (both.getKind() == Tree.Kind.CONDITIONAL_AND) {
            return isBound(both.getLeftOperand(), counted) || isBound(both.getRightOperand(), counted);
        }
        return ORDERS.contains(both.getKind()) && counted.contains(both.getLeftOperand().toString());
    }

    /** The variables that are counted up or down, or divided, on the way through every step. */
    private static Set<String> countedIn(Tree tree) {
        Set<String> counted = new HashSet<>();
        if (tree instanceof BlockTree block) {
            block.getStatements().forEach(inner -> counted.addAll(countedIn(inner)));
        } else if (tree instanceof ExpressionStatementTree step && step.getExpression() instanceof UnaryTree one) {
            counted.add(one.getExpression().toString());
        } else if (tree instanceof ExpressionStatementTree step
                && step.getExpression() instanceof CompoundAssignmentTree one) {
            counted.add(one.getVariable().toString());
        }
        return counted;
    }

    private void checkDepth() {
        for (Element start : calls.keySet()) {
            int depth = depthFrom(start, new HashSet<>());
            check(depth <= MOST_DEPTH, 11, start + " goes " + depth + " calls deep", unit);
        }
    }

    private int depthFrom(Element start, Set<Element> open) {
        if (!open.add(start)) {
            check(false, 8, start + " comes back to itself", unit);
            return 0;
        }
        int deepest = 0;
        for (Element next : calls.getOrDefault(start, Set.of())) {
            deepest = Math.max(deepest, depthFrom(next, open));
        }
        open.remove(start);
        return deepest + 1;
    }
}
