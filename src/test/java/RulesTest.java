import com.sun.source.tree.AssertTree;
import com.sun.source.tree.AssignmentTree;
import com.sun.source.tree.BinaryTree;
import com.sun.source.tree.ClassTree;
import com.sun.source.tree.CompilationUnitTree;
import com.sun.source.tree.CompoundAssignmentTree;
import com.sun.source.tree.DoWhileLoopTree;
import com.sun.source.tree.ExpressionTree;
import com.sun.source.tree.ForLoopTree;
import com.sun.source.tree.IdentifierTree;
import com.sun.source.tree.LambdaExpressionTree;
import com.sun.source.tree.LineMap;
import com.sun.source.tree.MemberReferenceTree;
import com.sun.source.tree.MethodInvocationTree;
import com.sun.source.tree.MethodTree;
import com.sun.source.tree.NewClassTree;
import com.sun.source.tree.SynchronizedTree;
import com.sun.source.tree.ThrowTree;
import com.sun.source.tree.Tree;
import com.sun.source.tree.TryTree;
import com.sun.source.tree.TypeCastTree;
import com.sun.source.tree.UnaryTree;
import com.sun.source.tree.WhileLoopTree;
import com.sun.source.util.JavacTask;
import com.sun.source.util.TreePath;
import com.sun.source.util.TreePathScanner;
import com.sun.source.util.TreeScanner;
import com.sun.source.util.Trees;
import java.io.IOException;
import java.util.ArrayList;
import java.util.HashMap;
import java.util.HashSet;
import java.util.List;
import java.util.Map;
import java.util.Set;
import java.util.TreeMap;
import java.util.TreeSet;
import javax.lang.model.element.Element;
import javax.lang.model.element.Modifier;
import javax.tools.JavaCompiler;
import javax.tools.StandardJavaFileManager;
import javax.tools.ToolProvider;

/** What of LANGUAGE.md can be seen from the program's tree, as the compiler reads it: rules 2, 6, 8, 9 and 11. */
public final class RulesTest {
    private static final Check CHECK = new Check("RulesTest");
    private static final String PROGRAM = "src/main/java/TwoInOne.java";
    private static final int MOST_LINES = 60;
    private static final int MOST_DEEP = 8;

    private final Trees trees;
    private final CompilationUnitTree unit;
    private final LineMap lines;
    /** Which methods a method calls; those of the library call nothing here. */
    private final Map<String, Set<String>> calls = new TreeMap<>();
    private final Set<String> hidden = new HashSet<>();
    private final Map<String, Integer> depths = new HashMap<>();

    private RulesTest(Trees trees, CompilationUnitTree unit) {
        this.trees = trees;
        this.unit = unit;
        lines = unit.getLineMap();
    }

    public static void main(String[] args) throws IOException {
        JavaCompiler compiler = ToolProvider.getSystemJavaCompiler();
        try (StandardJavaFileManager files = compiler.getStandardFileManager(null, null, null)) {
            JavacTask task = (JavacTask) compiler.getTask(null, files, null, null, null, files.getJavaFileObjects(PROGRAM));
            CompilationUnitTree unit = task.parse().iterator().next();
            task.analyze();
            new RulesTest(Trees.instance(task), unit).look();
        }
        CHECK.finish();
    }

    private void look() {
        new Looker().scan(unit, null);
        CHECK.due("methods are seen", calls.size() > 100, true);
        recursion();
        for (String method : calls.keySet()) {
            int depth = depth(method, new ArrayList<>());
            CHECK.due("rule 11: calls from " + method + " go " + depth + " deep", depth <= MOST_DEEP, true);
        }
    }

    private void recursion() {
        int found = 0;
        for (String method : calls.keySet()) {
            if (reached(method).contains(method)) {
                found++;
                CHECK.due("rule 8: " + method + ", which comes back to itself, is private", hidden.contains(method), true);
            }
        }
        CHECK.due("recursion is seen", found > 0, true);
    }

    private Set<String> reached(String from) {
        Set<String> all = new TreeSet<>();
        List<String> open = new ArrayList<>(List.of(from));
        while (!open.isEmpty()) {
            for (String next : calls.getOrDefault(open.remove(open.size() - 1), Set.of())) {
                if (all.add(next)) {
                    open.add(next);
                }
            }
        }
        return all;
    }

    /** The longest chain of calls; one that comes back to a method of the chain is recursion, which does not count here. */
    private int depth(String method, List<String> chain) {
        if (depths.containsKey(method)) {
            return depths.get(method);
        }
        chain.add(method);
        int most = 0;
        for (String next : calls.getOrDefault(method, Set.of())) {
            if (!chain.contains(next)) {
                most = Math.max(most, depth(next, chain));
            }
        }
        chain.remove(chain.size() - 1);
        if (!reached(method).contains(method)) {
            depths.put(method, most + 1);
        }
        return most + 1;
    }

    private final class Looker extends TreePathScanner<Void, Void> {
        private String method = "";

        @Override
        public Void visitMethod(MethodTree tree, Void nothing) {
            String outer = method;
            method = name(trees.getElement(getCurrentPath()));
            calls.putIfAbsent(method, new TreeSet<>());
            if (tree.getModifiers().getFlags().contains(Modifier.PRIVATE)) {
                hidden.add(method);
            }
            CHECK.due("rule 11: " + method + " takes at most seven", tree.getParameters().size() <= 7, true);
            long end = trees.getSourcePositions().getEndPosition(unit, tree);
            // a constructor that is not written has no end
            if (end >= 0) {
                long from = lines.getLineNumber(trees.getSourcePositions().getStartPosition(unit, tree));
                CHECK.due("rule 11: " + method + " is short", lines.getLineNumber(end) - from < MOST_LINES, true);
            }
            super.visitMethod(tree, nothing);
            method = outer;
            return null;
        }

        private String name(Element element) {
            return element.getEnclosingElement() + "." + element;
        }

        @Override
        public Void visitMethodInvocation(MethodInvocationTree tree, Void nothing) {
            call(trees.getElement(new TreePath(getCurrentPath(), tree.getMethodSelect())));
            return super.visitMethodInvocation(tree, nothing);
        }

        @Override
        public Void visitNewClass(NewClassTree tree, Void nothing) {
            CHECK.due("rule 2: a class without a name" + at(tree), tree.getClassBody() != null, false);
            call(trees.getElement(getCurrentPath()));
            return super.visitNewClass(tree, nothing);
        }

        private void call(Element element) {
            // what a constructor calls first is not written
            if (!method.isEmpty() && !element.getEnclosingElement().toString().equals("java.lang.Object")) {
                calls.get(method).add(name(element));
            }
        }

        @Override
        public Void visitClass(ClassTree tree, Void nothing) {
            boolean inside = !tree.getSimpleName().contentEquals("TwoInOne");
            boolean fixed = tree.getModifiers().getFlags().contains(Modifier.STATIC);
            CHECK.due("rule 2: " + tree.getSimpleName() + " is static", !inside || fixed, true);
            CHECK.due("rule 2: " + tree.getSimpleName() + " is in no method", method.isEmpty(), true);
            return super.visitClass(tree, nothing);
        }

        @Override
        public Void visitForLoop(ForLoopTree tree, Void nothing) {
            Set<String> steps = new HashSet<>(changed(tree.getUpdate()));
            steps.addAll(changed(List.of(tree.getStatement())));
            bounded(tree, tree.getCondition(), steps);
            return super.visitForLoop(tree, nothing);
        }

        @Override
        public Void visitWhileLoop(WhileLoopTree tree, Void nothing) {
            bounded(tree, tree.getCondition(), changed(List.of(tree.getStatement())));
            return super.visitWhileLoop(tree, nothing);
        }

        @Override
        public Void visitDoWhileLoop(DoWhileLoopTree tree, Void nothing) {
            bounded(tree, tree.getCondition(), changed(List.of(tree.getStatement())));
            return super.visitDoWhileLoop(tree, nothing);
        }

        @Override
        public Void visitTypeCast(TypeCastTree tree, Void nothing) {
            CHECK.due("rule 6: a cast" + at(tree), tree.getType().getKind() == Tree.Kind.PRIMITIVE_TYPE, true);
            return super.visitTypeCast(tree, nothing);
        }

        @Override
        public Void visitLambdaExpression(LambdaExpressionTree tree, Void nothing) {
            return refused("rule 2: a lambda", tree);
        }

        @Override
        public Void visitMemberReference(MemberReferenceTree tree, Void nothing) {
            return refused("rule 2: a method reference", tree);
        }

        @Override
        public Void visitThrow(ThrowTree tree, Void nothing) {
            return refused("rule 6: throw", tree);
        }

        @Override
        public Void visitTry(TryTree tree, Void nothing) {
            return refused("rule 6: try", tree);
        }

        @Override
        public Void visitSynchronized(SynchronizedTree tree, Void nothing) {
            return refused("rule 6: synchronized", tree);
        }

        @Override
        public Void visitAssert(AssertTree tree, Void nothing) {
            return refused("rule 6: assert", tree);
        }

        private Void refused(String what, Tree tree) {
            CHECK.due(what + at(tree), true, false);
            return null;
        }
    }

    private String at(Tree tree) {
        return " in line " + lines.getLineNumber(trees.getSourcePositions().getStartPosition(unit, tree));
    }

    /** Rule 9: a comparison that must hold for the loop to go on, of something that the loop itself changes. */
    private void bounded(Tree loop, ExpressionTree condition, Set<String> steps) {
        Set<String> compared = new HashSet<>();
        new TreeScanner<Void, Void>() {
            @Override
            public Void visitBinary(BinaryTree tree, Void nothing) {
                switch (tree.getKind()) {
                    case CONDITIONAL_AND:
                        return super.visitBinary(tree, nothing);
                    case LESS_THAN: case GREATER_THAN: case LESS_THAN_EQUAL: case GREATER_THAN_EQUAL:
                        compared.addAll(named(tree));
                        return null;
                    default:
                        return null;
                }
            }
        }.scan(condition, null);
        compared.retainAll(steps);
        CHECK.due("rule 9: the end of the loop" + at(loop) + " is to be seen", !compared.isEmpty(), true);
    }

    private static Set<String> named(Tree tree) {
        Set<String> names = new HashSet<>();
        new TreeScanner<Void, Void>() {
            @Override
            public Void visitIdentifier(IdentifierTree each, Void nothing) {
                names.add(each.getName().toString());
                return null;
            }
        }.scan(tree, null);
        return names;
    }

    private static Set<String> changed(List<? extends Tree> parts) {
        Set<String> names = new HashSet<>();
        new TreeScanner<Void, Void>() {
            @Override
            public Void visitUnary(UnaryTree tree, Void nothing) {
                switch (tree.getKind()) {
                    case POSTFIX_INCREMENT: case POSTFIX_DECREMENT: case PREFIX_INCREMENT: case PREFIX_DECREMENT:
                        names.add(tree.getExpression().toString());
                        break;
                    default:
                        break;
                }
                return super.visitUnary(tree, nothing);
            }

            @Override
            public Void visitCompoundAssignment(CompoundAssignmentTree tree, Void nothing) {
                names.add(tree.getVariable().toString());
                return super.visitCompoundAssignment(tree, nothing);
            }

            @Override
            public Void visitAssignment(AssignmentTree tree, Void nothing) {
                names.add(tree.getVariable().toString());
                return super.visitAssignment(tree, nothing);
            }
        }.scan(parts, null);
        return names;
    }
}
