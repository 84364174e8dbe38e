import com.sun.source.tree.BinaryTree;
import com.sun.source.tree.BlockTree;
import com.sun.source.tree.ClassTree;
import com.sun.source.tree.CompilationUnitTree;
import com.sun.source.tree.DoWhileLoopTree;
import com.sun.source.tree.EnhancedForLoopTree;
import com.sun.source.tree.ExpressionStatementTree;
import com.sun.source.tree.ExpressionTree;
import com.sun.source.tree.ForLoopTree;
import com.sun.source.tree.LambdaExpressionTree;
import com.sun.source.tree.MethodInvocationTree;
import com.sun.source.tree.MethodTree;
import com.sun.source.tree.NewArrayTree;
import com.sun.source.tree.NewClassTree;
import com.sun.source.tree.ParenthesizedTree;
import com.sun.source.tree.StatementTree;
import com.sun.source.tree.Tree;
import com.sun.source.tree.UnaryTree;
import com.sun.source.tree.VariableTree;
import com.sun.source.tree.WhileLoopTree;
import com.sun.source.util.JavacTask;
import com.sun.source.util.TreePath;
import com.sun.source.util.TreePathScanner;
import com.sun.source.util.Trees;
import java.nio.file.Path;
import java.util.ArrayList;
import java.util.LinkedHashMap;
import java.util.LinkedHashSet;
import java.util.List;
import java.util.Map;
import java.util.Set;
import javax.lang.model.element.Element;
import javax.lang.model.element.ElementKind;
import javax.lang.model.element.Modifier;
import javax.tools.JavaCompiler;
import javax.tools.StandardJavaFileManager;
import javax.tools.ToolProvider;

/** Those rules of LANGUAGE.md for which the program's tree is needed: who calls whom, loops, what is made where. */
public final class LanguageTreeTest {
    private static final int DEEPEST = 8;
    private static int wrong;

    private static void mustBe(int rule, String what, boolean so) {
        if (!so) {
            wrong++;
            System.out.println("rule " + rule + ": " + what);
        }
    }

    /** Goes over the program once, and keeps which of its methods calls which. */
    private static final class Walk extends TreePathScanner<Void, Element> {
        final Map<Element, Set<Element>> calls = new LinkedHashMap<>();
        private final Trees trees;

        Walk(Trees trees) {
            this.trees = trees;
        }

        private Element here() {
            return trees.getElement(getCurrentPath());
        }

        private String line(Tree tree) {
            CompilationUnitTree unit = getCurrentPath().getCompilationUnit();
            long at = trees.getSourcePositions().getStartPosition(unit, tree);
            return "line " + unit.getLineMap().getLineNumber(at);
        }

        private void calls(Element caller, Element called) {
            if (caller != null && called != null && ofProgram(called)) {
                calls.computeIfAbsent(caller, it -> new LinkedHashSet<>()).add(called);
            }
        }

        private static boolean ofProgram(Element it) {
            Element outer = it;
            while (outer.getEnclosingElement() != null && outer.getEnclosingElement().getKind().isClass()) {
                outer = outer.getEnclosingElement();
            }
            return outer.getSimpleName().contentEquals("NameRevisions");
        }

        @Override
        public Void visitMethod(MethodTree tree, Element in) {
            return super.visitMethod(tree, here());
        }

        @Override
        public Void visitMethodInvocation(MethodInvocationTree tree, Element in) {
            calls(in, here());
            return super.visitMethodInvocation(tree, in);
        }

        @Override
        public Void visitNewClass(NewClassTree tree, Element in) {
            mustBe(2, line(tree) + ": no class without a name", tree.getClassBody() == null);
            making(tree, in);
            calls(in, here());
            return super.visitNewClass(tree, in);
        }

        @Override
        public Void visitNewArray(NewArrayTree tree, Element in) {
            making(tree, in);
            return super.visitNewArray(tree, in);
        }

        private void making(Tree tree, Element in) {
            // The rule lets any method make objects; this program makes all it needs in its constructors.
            boolean built = in == null || in.getKind() == ElementKind.CONSTRUCTOR || in.getKind() == ElementKind.FIELD;
            mustBe(12, line(tree) + ": only constructors make objects", built);
        }

        @Override
        public Void visitVariable(VariableTree tree, Element in) {
            Element it = here();
            if (it != null && it.getKind() == ElementKind.FIELD) {
                return super.visitVariable(tree, it);
            }
            return super.visitVariable(tree, in);
        }

        @Override
        public Void visitClass(ClassTree tree, Element in) {
            TreePath above = getCurrentPath().getParentPath();
            mustBe(2, line(tree) + ": no class inside a method",
                above.getLeaf() instanceof ClassTree || above.getLeaf() instanceof CompilationUnitTree);
            return super.visitClass(tree, null);
        }

        @Override
        public Void visitLambdaExpression(LambdaExpressionTree tree, Element in) {
            mustBe(2, line(tree) + ": no lambda", false);
            return super.visitLambdaExpression(tree, in);
        }

        @Override
        public Void visitForLoop(ForLoopTree tree, Element in) {
            boolean bounded = tree.getCondition() != null && tree.getUpdate().size() == 1
                && counted(tree.getUpdate().get(0)) != null
                && boundsBy(tree.getCondition(), counted(tree.getUpdate().get(0)));
            mustBe(9, line(tree) + ": the loop counts against a bound", bounded);
            return super.visitForLoop(tree, in);
        }

        @Override
        public Void visitWhileLoop(WhileLoopTree tree, Element in) {
            boolean bounded = false;
            for (StatementTree step : statements(tree.getStatement())) {
                if (step instanceof ExpressionStatementTree) {
                    String counter = counted((ExpressionStatementTree) step);
                    bounded |= counter != null && boundsBy(tree.getCondition(), counter);
                }
            }
            mustBe(9, line(tree) + ": the loop counts against a bound", bounded);
            return super.visitWhileLoop(tree, in);
        }

        @Override
        public Void visitDoWhileLoop(DoWhileLoopTree tree, Element in) {
            mustBe(9, line(tree) + ": a loop of a form that this test can't see the end of", false);
            return super.visitDoWhileLoop(tree, in);
        }

        @Override
        public Void visitEnhancedForLoop(EnhancedForLoopTree tree, Element in) {
            mustBe(9, line(tree) + ": a loop of a form that this test can't see the end of", false);
            return super.visitEnhancedForLoop(tree, in);
        }

        private static List<? extends StatementTree> statements(StatementTree body) {
            return body instanceof BlockTree ? ((BlockTree) body).getStatements() : List.of(body);
        }

        /** The variable that a step makes 1 more or less; null: it does something else. */
        private static String counted(ExpressionStatementTree step) {
            if (!(step.getExpression() instanceof UnaryTree)) {
                return null;
            }
            return ((UnaryTree) step.getExpression()).getExpression().toString();
        }

        /** Whether one of the parts that && joins compares the counter, so that the condition can't hold for ever. */
        private static boolean boundsBy(ExpressionTree condition, String counter) {
            if (condition instanceof ParenthesizedTree) {
                return boundsBy(((ParenthesizedTree) condition).getExpression(), counter);
            }
            if (!(condition instanceof BinaryTree)) {
                return false;
            }
            BinaryTree both = (BinaryTree) condition;
            if (both.getKind() == Tree.Kind.CONDITIONAL_AND) {
                return boundsBy(both.getLeftOperand(), counter) || boundsBy(both.getRightOperand(), counter);
            }
            boolean compares = both.getKind() == Tree.Kind.LESS_THAN || both.getKind() == Tree.Kind.GREATER_THAN
                || both.getKind() == Tree.Kind.LESS_THAN_EQUAL || both.getKind() == Tree.Kind.GREATER_THAN_EQUAL;
            return compares && both.getLeftOperand().toString().equals(counter);
        }
    }

    /** Fields that are made with their object count as calls of its constructor. */
    private static void joinFields(Walk walk) {
        Map<Element, Set<Element>> more = new LinkedHashMap<>();
        for (Map.Entry<Element, Set<Element>> it : walk.calls.entrySet()) {
            if (it.getKey().getKind() == ElementKind.FIELD) {
                for (Element other : it.getKey().getEnclosingElement().getEnclosedElements()) {
                    if (other.getKind() == ElementKind.CONSTRUCTOR) {
                        more.computeIfAbsent(other, key -> new LinkedHashSet<>()).addAll(it.getValue());
                    }
                }
            }
        }
        more.forEach((maker, called) ->
            walk.calls.computeIfAbsent(maker, it -> new LinkedHashSet<>()).addAll(called));
    }

    /** The calls that stand open below one, the longest chain of them; a method that calls itself counts once. */
    private static List<Element> chain(Walk walk, Element from, List<Element> open) {
        List<Element> longest = new ArrayList<>();
        open.add(from);
        for (Element called : walk.calls.getOrDefault(from, Set.of())) {
            if (called.equals(from)) {
                boolean still = called.getModifiers().containsAll(Set.of(Modifier.PRIVATE, Modifier.STATIC));
                mustBe(8, called + " calls itself, and is private and static", still);
            } else if (open.contains(called)) {
                mustBe(8, "no methods that call one another: " + open + ", " + called, false);
            } else {
                List<Element> below = chain(walk, called, open);
                longest = below.size() > longest.size() ? below : longest;
            }
        }
        open.remove(open.size() - 1);
        List<Element> whole = new ArrayList<>(List.of(from));
        whole.addAll(longest);
        return whole;
    }

    private static void callsGoAtMostSoDeep(Walk walk) {
        mustBe(11, "calls are found at all", walk.calls.size() > 40);
        for (Element from : walk.calls.keySet()) {
            List<Element> longest = chain(walk, from, new ArrayList<>());
            mustBe(11, "at most " + DEEPEST + " deep: " + longest, longest.size() <= DEEPEST);
        }
    }

    public static void main(String[] args) throws Exception {
        Path program = Path.of(args.length > 0 ? args[0] : "src/main/java/NameRevisions.java");
        JavaCompiler compiler = ToolProvider.getSystemJavaCompiler();
        try (StandardJavaFileManager files = compiler.getStandardFileManager(null, null, null)) {
            JavacTask task = (JavacTask) compiler.getTask(
                null, files, null, List.of("-proc:none"), null, files.getJavaFileObjects(program));
            Walk walk = new Walk(Trees.instance(task));
            Iterable<? extends CompilationUnitTree> units = task.parse();
            task.analyze();
            for (CompilationUnitTree unit : units) {
                walk.scan(unit, null);
            }
            joinFields(walk);
            callsGoAtMostSoDeep(walk);
        }
        if (wrong != 0) {
            System.exit(1);
        }
    }
}
