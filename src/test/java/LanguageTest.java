import com.sun.source.tree.CompilationUnitTree;
import com.sun.source.tree.DoWhileLoopTree;
import com.sun.source.tree.ExpressionTree;
import com.sun.source.tree.ForLoopTree;
import com.sun.source.tree.LiteralTree;
import com.sun.source.tree.MethodInvocationTree;
import com.sun.source.tree.MethodTree;
import com.sun.source.tree.NewArrayTree;
import com.sun.source.tree.NewClassTree;
import com.sun.source.tree.ParenthesizedTree;
import com.sun.source.tree.Tree;
import com.sun.source.tree.VariableTree;
import com.sun.source.tree.WhileLoopTree;
import com.sun.source.util.JavacTask;
import com.sun.source.util.TreePathScanner;
import com.sun.source.util.Trees;
import java.io.IOException;
import java.nio.file.Path;
import java.util.ArrayList;
import java.util.EnumSet;
import java.util.LinkedHashMap;
import java.util.LinkedHashSet;
import java.util.List;
import java.util.Map;
import java.util.Set;
import javax.lang.model.element.Element;
import javax.lang.model.element.ElementKind;
import javax.lang.model.element.TypeElement;
import javax.tools.JavaCompiler;
import javax.tools.StandardJavaFileManager;
import javax.tools.ToolProvider;

/** Those rules of LANGUAGE.md that need the compiler's own view of the class: what calls what, what is made where. */
public final class LanguageTest extends TreePathScanner<Void, Void> {
    private static final Checks CHECKS = new Checks();

    private static final Set<String> LIBRARY = Set.of("Math.max", "Math.min", "System.arraycopy", "String.length", "String.charAt");

    private static final Set<Tree.Kind> RULED_OUT = EnumSet.of(Tree.Kind.THROW, Tree.Kind.TRY, Tree.Kind.CATCH,
        Tree.Kind.SYNCHRONIZED, Tree.Kind.ASSERT, Tree.Kind.LAMBDA_EXPRESSION, Tree.Kind.MEMBER_REFERENCE,
        Tree.Kind.IMPORT, Tree.Kind.PACKAGE, Tree.Kind.ANNOTATION);

    private static final String TYPES = "boolean|(int|long|byte|boolean)\\[\\]|int\\[\\]\\[\\]|int|long|java.lang.String|LeapKings\\.\\w+(\\[\\])?";

    private final Trees trees;
    private final Map<Element, Set<Element>> calls = new LinkedHashMap<>();
    private Element inside;

    private LanguageTest(Trees trees) {
        this.trees = trees;
    }

    private static void holds(String what, boolean so) {
        CHECKS.due(what, so ? 1 : 0, 1);
    }

    private static String nameOf(Element method) {
        return method.getEnclosingElement().getSimpleName() + "." + method.getSimpleName();
    }

    private static boolean isOwn(Element method) {
        Element outer = method;
        while (outer.getEnclosingElement() instanceof TypeElement) {
            outer = outer.getEnclosingElement();
        }
        return outer.getSimpleName().contentEquals("LeapKings");
    }

    @Override
    public Void scan(Tree tree, Void none) {
        if (tree != null) {
            holds("6: no " + tree.getKind() + " in " + inside, !RULED_OUT.contains(tree.getKind()));
        }
        return super.scan(tree, none);
    }

    @Override
    public Void visitMethod(MethodTree tree, Void none) {
        inside = trees.getElement(getCurrentPath());
        calls.put(inside, new LinkedHashSet<>());
        super.visitMethod(tree, none);
        inside = null;
        return null;
    }

    @Override
    public Void visitVariable(VariableTree tree, Void none) {
        String type = String.valueOf(trees.getTypeMirror(getCurrentPath()));
        holds("3: the type of " + tree.getName() + ", " + type, type.matches(TYPES));
        return super.visitVariable(tree, none);
    }

    @Override
    public Void visitMethodInvocation(MethodInvocationTree tree, Void none) {
        Element called = trees.getElement(getCurrentPath());
        if (called.getKind() == ElementKind.CONSTRUCTOR) {
            return super.visitMethodInvocation(tree, none);
        }
        if (isOwn(called)) {
            holds("a field is not made by a call: " + tree, inside != null);
            if (inside != null) calls.get(inside).add(called);
        } else {
            holds("4: the library's " + nameOf(called), LIBRARY.contains(nameOf(called)));
        }
        return super.visitMethodInvocation(tree, none);
    }

    @Override
    public Void visitNewClass(NewClassTree tree, Void none) {
        madeByConstructor(tree);
        return super.visitNewClass(tree, none);
    }

    @Override
    public Void visitNewArray(NewArrayTree tree, Void none) {
        madeByConstructor(tree);
        return super.visitNewArray(tree, none);
    }

    private void madeByConstructor(Tree tree) {
        holds("12: made by a constructor alone: " + tree, inside == null || inside.getKind() == ElementKind.CONSTRUCTOR);
    }

    @Override
    public Void visitForLoop(ForLoopTree tree, Void none) {
        ends(tree.getCondition());
        holds("9: a counter: " + inside, !tree.getUpdate().isEmpty());
        return super.visitForLoop(tree, none);
    }

    @Override
    public Void visitWhileLoop(WhileLoopTree tree, Void none) {
        ends(tree.getCondition());
        return super.visitWhileLoop(tree, none);
    }

    @Override
    public Void visitDoWhileLoop(DoWhileLoopTree tree, Void none) {
        ends(tree.getCondition());
        return super.visitDoWhileLoop(tree, none);
    }

    private void ends(ExpressionTree condition) {
        ExpressionTree bare = condition instanceof ParenthesizedTree p ? p.getExpression() : condition;
        holds("9: an end that can be seen: " + inside, bare != null && !(bare instanceof LiteralTree));
    }

    /** The longest chain of calls that begins with a method; one that comes again in its own chain has no end. */
    private List<Element> longest(Element from, Set<Element> open) {
        holds("8: no recursion: " + from, open.add(from));
        List<Element> best = List.of();
        for (Element next : calls.getOrDefault(from, Set.of())) {
            List<Element> then = open.contains(next) ? List.of() : longest(next, open);
            if (then.size() > best.size()) best = then;
        }
        open.remove(from);
        List<Element> all = new ArrayList<>(List.of(from));
        all.addAll(best);
        return all;
    }

    private void depths() {
        for (Element method : calls.keySet()) {
            List<Element> chain = longest(method, new LinkedHashSet<>());
            // Who calls the class may be counted with them.
            holds("11: calls go eight deep at most: " + chain.stream().map(LanguageTest::nameOf).toList(), chain.size() < 8);
        }
        holds("there are methods", calls.size() > 40);
    }

    public static void main(String[] args) throws IOException {
        JavaCompiler javac = ToolProvider.getSystemJavaCompiler();
        try (StandardJavaFileManager files = javac.getStandardFileManager(null, null, null)) {
            JavacTask task = (JavacTask) javac.getTask(null, files, null, List.of("--release", "17"), null,
                files.getJavaFileObjects(Path.of("src/main/java/LeapKings.java")));
            Iterable<? extends CompilationUnitTree> units = task.parse();
            task.analyze();
            LanguageTest test = new LanguageTest(Trees.instance(task));
            for (CompilationUnitTree unit : units) {
                test.scan(unit, null);
            }
            test.depths();
        }
        CHECKS.finish();
    }
}
