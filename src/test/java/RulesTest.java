import com.sun.source.tree.AssertTree;
import com.sun.source.tree.BinaryTree;
import com.sun.source.tree.BlockTree;
import com.sun.source.tree.ClassTree;
import com.sun.source.tree.CompilationUnitTree;
import com.sun.source.tree.DoWhileLoopTree;
import com.sun.source.tree.EnhancedForLoopTree;
import com.sun.source.tree.ExpressionTree;
import com.sun.source.tree.ForLoopTree;
import com.sun.source.tree.LambdaExpressionTree;
import com.sun.source.tree.MemberReferenceTree;
import com.sun.source.tree.MemberSelectTree;
import com.sun.source.tree.MethodInvocationTree;
import com.sun.source.tree.MethodTree;
import com.sun.source.tree.NewArrayTree;
import com.sun.source.tree.NewClassTree;
import com.sun.source.tree.SynchronizedTree;
import com.sun.source.tree.ThrowTree;
import com.sun.source.tree.Tree;
import com.sun.source.tree.TryTree;
import com.sun.source.tree.TypeCastTree;
import com.sun.source.tree.VariableTree;
import com.sun.source.tree.WhileLoopTree;
import com.sun.source.util.JavacTask;
import com.sun.source.util.TreePath;
import com.sun.source.util.TreePathScanner;
import com.sun.source.util.Trees;
import java.nio.file.Path;
import java.util.HashMap;
import java.util.HashSet;
import java.util.LinkedHashMap;
import java.util.LinkedHashSet;
import java.util.List;
import java.util.Map;
import java.util.Set;
import java.util.regex.Pattern;
import javax.lang.model.element.Element;
import javax.lang.model.element.ElementKind;
import javax.lang.model.element.ExecutableElement;
import javax.lang.model.element.Modifier;
import javax.lang.model.element.TypeElement;
import javax.lang.model.type.TypeMirror;
import javax.tools.JavaCompiler;
import javax.tools.StandardJavaFileManager;
import javax.tools.ToolProvider;

/** Rules of LANGUAGE.md, held against the class as the compiler understands it. */
public final class RulesTest extends TreePathScanner<Void, Void> {
    private static final int MOST_PARAMETERS = 7;
    private static final int MOST_LINES = 60;
    private static final int MOST_DEEP = 8;

    /** Of rule 4, only what the class has need of: another call of the library is to be looked up there first. */
    private static final Set<String> LIBRARY = Set.of(
        "java.lang.Math.min", "java.lang.Math.max", "java.lang.Integer.bitCount", "java.lang.String.length",
        "java.lang.String.charAt", "java.lang.System.arraycopy", "java.util.Arrays.fill", "java.lang.Object.<init>");

    private static final Pattern TYPES = Pattern.compile(
        "(int|long|boolean|char|byte|short)(\\[\\])?|int\\[\\]\\[\\]|java\\.lang\\.String"
        + "|NettleShirts\\.[A-Z][A-Za-z]+(\\[\\])?");

    private static final Pattern TYPES_OF_CONSTANTS = Pattern.compile("int|long|boolean|char|java\\.lang\\.String");

    private final Trees trees;
    private final CompilationUnitTree unit;
    private final javax.lang.model.util.Elements elements;
    private final Map<ExecutableElement, Set<ExecutableElement>> calls = new LinkedHashMap<>();
    private final Set<ExecutableElement> methods = new LinkedHashSet<>();
    private int loops = 0;

    private RulesTest(JavacTask task, CompilationUnitTree unit) {
        this.trees = Trees.instance(task);
        this.elements = task.getElements();
        this.unit = unit;
    }

    public static void main(String[] args) throws Exception {
        JavaCompiler compiler = ToolProvider.getSystemJavaCompiler();
        try (StandardJavaFileManager files = compiler.getStandardFileManager(null, null, null)) {
            Path main = Path.of("src/main/java/NettleShirts.java");
            JavacTask task = (JavacTask) compiler.getTask(
                null, files, null, List.of("--release", "17"), null, files.getJavaFileObjects(main));
            CompilationUnitTree unit = task.parse().iterator().next();
            task.analyze();
            RulesTest rules = new RulesTest(task, unit);
            rules.namesOfMethods();
            rules.scan(unit, null);
            rules.callsAreNotDeep();
        }
        Check.end();
    }

    private void namesOfMethods() {
        new TreePathScanner<Void, Void>() {
            @Override
            public Void visitMethod(MethodTree tree, Void none) {
                methods.add((ExecutableElement) trees.getElement(getCurrentPath()));
                return super.visitMethod(tree, none);
            }
        }.scan(unit, null);
        Check.holds("methods are found", methods.size() > 100);
    }

    private void forbidden(String rule, Tree tree) {
        Check.holds(rule + ": " + tree, false);
    }

    @Override
    public Void visitClass(ClassTree tree, Void none) {
        Element it = trees.getElement(getCurrentPath());
        Tree parent = getCurrentPath().getParentPath().getLeaf();
        boolean isFace = parent == unit;
        Check.holds("2: " + it + " stands in the file or in the class", isFace || parent instanceof ClassTree);
        Check.holds("2: " + it + " is static", isFace || it.getModifiers().contains(Modifier.STATIC));
        Check.holds("1: " + it + " is not public", isFace || !it.getModifiers().contains(Modifier.PUBLIC));
        return super.visitClass(tree, none);
    }

    @Override
    public Void visitBlock(BlockTree tree, Void none) {
        Check.holds("5: no static block", !tree.isStatic());
        return super.visitBlock(tree, none);
    }

    @Override
    public Void visitMethod(MethodTree tree, Void none) {
        Check.holds("11: parameters of " + tree.getName(), tree.getParameters().size() <= MOST_PARAMETERS);
        long start = trees.getSourcePositions().getStartPosition(unit, tree);
        long end = trees.getSourcePositions().getEndPosition(unit, tree);
        if (start >= 0 && end > start) {
            long lines = unit.getLineMap().getLineNumber(end) - unit.getLineMap().getLineNumber(start) + 1;
            Check.holds("11: lines of " + tree.getName(), lines <= MOST_LINES);
        }
        return super.visitMethod(tree, none);
    }

    @Override
    public Void visitVariable(VariableTree tree, Void none) {
        Element it = trees.getElement(getCurrentPath());
        String type = it.asType().toString();
        Check.holds("3: " + type + " " + it, TYPES.matcher(type).matches());
        if (it.getKind() == ElementKind.FIELD && it.getModifiers().contains(Modifier.STATIC)) {
            Check.holds("5: " + it + " is final", it.getModifiers().contains(Modifier.FINAL));
            Check.holds("5: " + type + " " + it, TYPES_OF_CONSTANTS.matcher(type).matches());
        }
        return super.visitVariable(tree, none);
    }

    @Override
    public Void visitMethodInvocation(MethodInvocationTree tree, Void none) {
        ExecutableElement called = (ExecutableElement) trees.getElement(getCurrentPath());
        boolean isFixed = tree.getMethodSelect() instanceof MemberSelectTree select
            && select.getExpression().toString().equals("super");
        noteCall(called, isFixed);
        return super.visitMethodInvocation(tree, none);
    }

    /** A method that others stand over may be any of them, but for a call by super. */
    private void noteCall(ExecutableElement called, boolean isFixed) {
        ExecutableElement from = enclosingMethod();
        String name = called.getEnclosingElement() + "." + called.getSimpleName();
        if (!methods.contains(called)) {
            Check.holds("4: " + name, LIBRARY.contains(name));
        }
        boolean isOfJava = called.getSimpleName().contentEquals("<init>");
        Check.holds("12: a constructor calls " + name, isOfJava || from != null && from.getKind() == ElementKind.METHOD);
        if (from == null) {
            return;
        }
        Set<ExecutableElement> all = calls.computeIfAbsent(from, k -> new LinkedHashSet<>());
        all.add(called);
        for (ExecutableElement m : methods) {
            if (!isFixed && elements.overrides(m, called, (TypeElement) m.getEnclosingElement())) {
                all.add(m);
            }
        }
    }

    private ExecutableElement enclosingMethod() {
        for (TreePath at = getCurrentPath(); at != null; at = at.getParentPath()) {
            if (at.getLeaf() instanceof MethodTree) {
                return (ExecutableElement) trees.getElement(at);
            }
        }
        return null;
    }

    @Override
    public Void visitNewClass(NewClassTree tree, Void none) {
        Check.holds("2: no anonymous class: " + tree, tree.getClassBody() == null);
        Check.holds("12: made in a loop: " + tree, loops == 0);
        return super.visitNewClass(tree, none);
    }

    @Override
    public Void visitNewArray(NewArrayTree tree, Void none) {
        Check.holds("12: made in a loop: " + tree, loops == 0);
        Check.holds("12: made by a call: " + tree, enclosingMethod() == null);
        return super.visitNewArray(tree, none);
    }

    @Override
    public Void visitBinary(BinaryTree tree, Void none) {
        boolean isLike = tree.getKind() == Tree.Kind.EQUAL_TO || tree.getKind() == Tree.Kind.NOT_EQUAL_TO;
        Check.holds("6: like texts: " + tree, !isLike || !isText(tree.getLeftOperand()));
        Check.holds("10: joined texts: " + tree, tree.getKind() != Tree.Kind.PLUS || !isText(tree));
        return super.visitBinary(tree, none);
    }

    private boolean isText(ExpressionTree tree) {
        TypeMirror type = trees.getTypeMirror(new TreePath(getCurrentPath(), tree));
        return type != null && type.toString().equals("java.lang.String");
    }

    @Override
    public Void visitTypeCast(TypeCastTree tree, Void none) {
        Check.holds("6: a cast among numbers: " + tree, tree.getType().toString().matches("int|long|char"));
        return super.visitTypeCast(tree, none);
    }

    @Override
    public Void visitForLoop(ForLoopTree tree, Void none) {
        Check.holds("9: an end of " + tree, tree.getCondition() != null && tree.getUpdate().size() == 1);
        loops++;
        super.visitForLoop(tree, none);
        loops--;
        return null;
    }

    @Override
    public Void visitWhileLoop(WhileLoopTree tree, Void none) {
        Check.holds("9: a bound of " + tree, tree.getCondition().toString().contains("<"));
        loops++;
        super.visitWhileLoop(tree, none);
        loops--;
        return null;
    }

    @Override
    public Void visitDoWhileLoop(DoWhileLoopTree tree, Void none) {
        Check.holds("9: a bound of " + tree, tree.getCondition().toString().contains("<"));
        loops++;
        super.visitDoWhileLoop(tree, none);
        loops--;
        return null;
    }

    @Override
    public Void visitEnhancedForLoop(EnhancedForLoopTree tree, Void none) {
        loops++;
        super.visitEnhancedForLoop(tree, none);
        loops--;
        return null;
    }

    @Override
    public Void visitLambdaExpression(LambdaExpressionTree tree, Void none) {
        forbidden("2", tree);
        return null;
    }

    @Override
    public Void visitMemberReference(MemberReferenceTree tree, Void none) {
        forbidden("2", tree);
        return null;
    }

    @Override
    public Void visitThrow(ThrowTree tree, Void none) {
        forbidden("6", tree);
        return null;
    }

    @Override
    public Void visitTry(TryTree tree, Void none) {
        forbidden("6", tree);
        return null;
    }

    @Override
    public Void visitSynchronized(SynchronizedTree tree, Void none) {
        forbidden("6", tree);
        return null;
    }

    @Override
    public Void visitAssert(AssertTree tree, Void none) {
        forbidden("6", tree);
        return null;
    }

    /** A method that calls itself is one level; methods that call one another in a ring would be told as too deep. */
    private void callsAreNotDeep() {
        Map<ExecutableElement, Integer> known = new HashMap<>();
        int deepest = 0;
        for (ExecutableElement m : methods) {
            int depth = depth(m, known, new HashSet<>());
            Check.holds("11: " + m.getEnclosingElement() + "." + m + " goes " + depth + " deep", depth <= MOST_DEEP);
            deepest = Math.max(deepest, depth);
        }
        Check.holds("calls are followed: " + deepest + " deep", deepest > 3);
    }

    private int depth(ExecutableElement m, Map<ExecutableElement, Integer> known, Set<ExecutableElement> open) {
        if (known.containsKey(m)) {
            return known.get(m);
        }
        if (!open.add(m)) {
            return MOST_DEEP + 1;
        }
        int below = 0;
        for (ExecutableElement next : calls.getOrDefault(m, Set.of())) {
            if (!next.equals(m)) {
                below = Math.max(below, depth(next, known, open));
            }
        }
        open.remove(m);
        known.put(m, below + 1);
        return below + 1;
    }
}
