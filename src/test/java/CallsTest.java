import com.sun.source.tree.ArrayAccessTree;
import com.sun.source.tree.BinaryTree;
import com.sun.source.tree.ClassTree;
import com.sun.source.tree.CompoundAssignmentTree;
import com.sun.source.tree.DoWhileLoopTree;
import com.sun.source.tree.EnhancedForLoopTree;
import com.sun.source.tree.ForLoopTree;
import com.sun.source.tree.LiteralTree;
import com.sun.source.tree.MethodInvocationTree;
import com.sun.source.tree.MethodTree;
import com.sun.source.tree.NewArrayTree;
import com.sun.source.tree.NewClassTree;
import com.sun.source.tree.Tree;
import com.sun.source.tree.TypeCastTree;
import com.sun.source.tree.UnaryTree;
import com.sun.source.tree.WhileLoopTree;
import com.sun.source.util.JavacTask;
import com.sun.source.util.TreePath;
import com.sun.source.util.TreePathScanner;
import com.sun.source.util.Trees;
import java.io.IOException;
import java.nio.file.Path;
import java.util.ArrayList;
import java.util.HashMap;
import java.util.HashSet;
import java.util.List;
import java.util.Map;
import java.util.Set;
import java.util.TreeMap;
import java.util.TreeSet;
import javax.lang.model.element.Element;
import javax.lang.model.element.ElementKind;
import javax.lang.model.element.Modifier;
import javax.tools.JavaCompiler;
import javax.tools.StandardJavaFileManager;
import javax.tools.ToolProvider;

/** Rules 7 to 12 of ../shared/LANGUAGE.md in the tree that javac makes of the source: calls, indices, divisors, loops, what is made. */
public final class CallsTest {
    private static final Due due = new Due();
    private static final int MOST_DEEP = 8;

    /** Which method calls which, each under the name of its class; those that are private. */
    private static final Map<String, Set<String>> calls = new TreeMap<>();
    private static final Set<String> hidden = new HashSet<>();
    private static Trees trees;

    public static void main(String[] args) throws IOException {
        JavaCompiler compiler = ToolProvider.getSystemJavaCompiler();
        try (StandardJavaFileManager files = compiler.getStandardFileManager(null, null, null)) {
            JavacTask task = (JavacTask) compiler.getTask(null, files, null, List.of("-proc:none"), null,
                files.getJavaFileObjects(Path.of("src/main/java/IdleCrimes.java")));
            trees = Trees.instance(task);
            List<Tree> units = new ArrayList<>();
            task.parse().forEach(units::add);
            task.analyze();
            for (Tree unit : units) {
                new Reader().scan(new TreePath((com.sun.source.tree.CompilationUnitTree) unit), null);
            }
        }
        due.is("methods are seen", calls.size() > 100, true);
        recursion();
        depth();
        due.tell();
    }

    /** Looks at each place of the source that a rule speaks of. */
    private static final class Reader extends TreePathScanner<Void, Void> {
        private String method = "";
        private String text = "";

        @Override
        public Void visitMethod(MethodTree tree, Void none) {
            Element element = trees.getElement(getCurrentPath());
            method = nameOf(element);
            text = tree.toString();
            calls.computeIfAbsent(method, name -> new TreeSet<>());
            if (element.getModifiers().contains(Modifier.PRIVATE)) {
                hidden.add(method);
            }
            due.promise("rule 11");
            due.is("seven parameters at most: " + method, tree.getParameters().size() <= 7, true);
            super.visitMethod(tree, none);
            method = "";
            text = "";
            return null;
        }

        @Override
        public Void visitMethodInvocation(MethodInvocationTree tree, Void none) {
            Element called = trees.getElement(getCurrentPath());
            if (called != null && called.getKind() == ElementKind.METHOD && !nameOf(called).startsWith("java.")) {
                due.promise("rule 12");
                due.is("calls stand in methods: " + tree, method.isEmpty(), false);
                calls.computeIfAbsent(method, name -> new TreeSet<>()).add(nameOf(called));
            }
            return super.visitMethodInvocation(tree, none);
        }

        private static String nameOf(Element element) {
            return element.getEnclosingElement() + "." + element.getSimpleName();
        }

        @Override
        public Void visitArrayAccess(ArrayAccessTree tree, Void none) {
            due.promise("rule 7: an index is looked at before it is used");
            String row = tree.getExpression().toString();
            String index = tree.getIndex().toString();
            boolean isLooked = text.contains("within(" + index + ", 0, " + row + ".length - 1)")
                || text.contains(index + " >= 0 && " + index + " < " + row + ".length") || isCounted(index, row + ".length");
            due.is(method + ": " + tree, isLooked, true);
            return super.visitArrayAccess(tree, none);
        }

        /** Whether a loop around this place counts the index from 0 on, up to the length. */
        private boolean isCounted(String index, String length) {
            for (TreePath path = getCurrentPath(); path != null; path = path.getParentPath()) {
                if (path.getLeaf() instanceof ForLoopTree) {
                    ForLoopTree loop = (ForLoopTree) path.getLeaf();
                    boolean starts = loop.getInitializer().toString().startsWith("int " + index + " = 0");
                    if (starts && loop.getCondition().toString().equals(index + " < " + length)) {
                        return true;
                    }
                }
            }
            return false;
        }

        @Override
        public Void visitBinary(BinaryTree tree, Void none) {
            if (tree.getKind() == Tree.Kind.DIVIDE || tree.getKind() == Tree.Kind.REMAINDER) {
                due.promise("rule 7: a divisor is looked at before it divides");
                String divisor = tree.getRightOperand().toString();
                boolean isLooked = divisor.matches("[1-9]\\d*|PLACES") || text.contains(divisor + " != 0")
                    || text.contains(divisor + " == 0 ?") || text.contains(divisor + " > 0")
                    || text.contains("int " + divisor + " = commonDivisor(");
                due.is(method + ": " + tree, isLooked, true);
            }
            return super.visitBinary(tree, none);
        }

        @Override
        public Void visitCompoundAssignment(CompoundAssignmentTree tree, Void none) {
            due.promise("rule 7: divisors");
            due.is(method + ": " + tree, tree.getKind() == Tree.Kind.DIVIDE_ASSIGNMENT || tree.getKind() == Tree.Kind.REMAINDER_ASSIGNMENT,
                false);
            return super.visitCompoundAssignment(tree, none);
        }

        @Override
        public Void visitTypeCast(TypeCastTree tree, Void none) {
            due.promise("rule 7");
            due.is("a cast: " + tree, false, true);
            return super.visitTypeCast(tree, none);
        }

        @Override
        public Void visitForLoop(ForLoopTree tree, Void none) {
            due.promise("rule 9: the end of a loop can be seen");
            String counter = tree.getUpdate().toString().replaceAll("[^a-z].*", "");
            String condition = String.valueOf(tree.getCondition());
            boolean up = condition.matches("(.*\\W)?" + counter + " <=? .*") && !condition.contains("||");
            boolean down = condition.matches(counter + " >= 0");
            due.is(method + ": for " + condition, !counter.isEmpty() && (up || down), true);
            due.is(method + ": its counter " + counter + " is its own", changes(tree.getStatement(), counter), 0);
            return super.visitForLoop(tree, none);
        }

        @Override
        public Void visitWhileLoop(WhileLoopTree tree, Void none) {
            due.promise("rule 9: the end of a loop can be seen");
            String condition = tree.getCondition().toString();
            String counter = condition.replaceAll("^\\((\\w+) <=? .*$", "$1");
            due.is(method + ": while " + condition, condition.matches("\\(\\w+ <=? .*") && !condition.contains("||"), true);
            due.is(method + ": it counts " + counter, tree.getStatement().toString().contains(counter + "++"), true);
            return super.visitWhileLoop(tree, none);
        }

        @Override
        public Void visitDoWhileLoop(DoWhileLoopTree tree, Void none) {
            due.is("do loops: " + method, 1, 0);
            return super.visitDoWhileLoop(tree, none);
        }

        @Override
        public Void visitEnhancedForLoop(EnhancedForLoopTree tree, Void none) {
            due.is("loops with an iterator: " + method, 1, 0);
            return super.visitEnhancedForLoop(tree, none);
        }

        private static int changes(Tree body, String counter) {
            int[] many = {0};
            new com.sun.source.util.TreeScanner<Void, Void>() {
                @Override
                public Void visitUnary(UnaryTree tree, Void none) {
                    boolean isChange = tree.getKind().name().contains("CREMENT");
                    many[0] += isChange && tree.getExpression().toString().equals(counter) ? 1 : 0;
                    return super.visitUnary(tree, none);
                }

                @Override
                public Void visitAssignment(com.sun.source.tree.AssignmentTree tree, Void none) {
                    many[0] += tree.getVariable().toString().equals(counter) ? 1 : 0;
                    return super.visitAssignment(tree, none);
                }

                @Override
                public Void visitCompoundAssignment(CompoundAssignmentTree tree, Void none) {
                    many[0] += tree.getVariable().toString().equals(counter) ? 1 : 0;
                    return super.visitCompoundAssignment(tree, none);
                }
            }.scan(body, null);
            return many[0];
        }

        @Override
        public Void visitNewClass(NewClassTree tree, Void none) {
            made(tree.toString());
            return super.visitNewClass(tree, none);
        }

        @Override
        public Void visitNewArray(NewArrayTree tree, Void none) {
            made(tree.toString());
            due.is("a length that is told: " + tree, tree.getDimensions().toString().matches("[\\w ().*<]+"), true);
            return super.visitNewArray(tree, none);
        }

        /** By a constructor or a field, but for the rows of a round. */
        private void made(String what) {
            due.promise("rule 12");
            due.is(method + " makes " + what, method.isEmpty() || method.endsWith(".<init>")
                || method.equals("IdleCrimes.round") && what.equals("new Walks()") && text.contains("if (walks == null)"), true);
        }

        @Override
        public Void visitLiteral(LiteralTree tree, Void none) {
            due.promise("rules 3, 10: neither texts nor their joining");
            due.is(method + ": " + tree, tree.getKind() == Tree.Kind.STRING_LITERAL, false);
            return super.visitLiteral(tree, none);
        }

        @Override
        public Void visitClass(ClassTree tree, Void none) {
            due.promise("rule 2");
            due.is("no class in a method: " + tree.getSimpleName(), method.isEmpty(), true);
            return super.visitClass(tree, none);
        }
    }

    private static Set<String> reached(String from) {
        Set<String> all = new HashSet<>();
        List<String> open = new ArrayList<>(calls.getOrDefault(from, Set.of()));
        while (!open.isEmpty()) {
            String one = open.remove(open.size() - 1);
            if (all.add(one)) {
                open.addAll(calls.getOrDefault(one, Set.of()));
            }
        }
        return all;
    }

    private static void recursion() {
        due.promise("rule 8");
        Set<String> turning = new TreeSet<>();
        for (String method : calls.keySet()) {
            if (reached(method).contains(method)) {
                turning.add(method);
                due.is(method + " is private", hidden.contains(method), true);
            }
        }
        String law = "IdleCrimes.Law.";
        due.is("methods that come back to themselves", turning.toString(), new TreeSet<>(List.of("IdleCrimes.Beat.group", "IdleCrimes.Beat.item",
            "IdleCrimes.Beat.items", "IdleCrimes.Borough.leastPosts", "IdleCrimes.Rota.canFill", law + "allOf", law + "anyOf", law + "factor",
            law + "sum", law + "term", law + "test")).toString());
    }

    /** How many calls stand open at most, those that come back to themselves as one. */
    private static int deep(String method, Map<String, Integer> known) {
        if (known.containsKey(method)) {
            return known.get(method);
        }
        Set<String> ring = new HashSet<>(Set.of(method));
        for (String other : reached(method)) {
            if (reached(other).contains(method)) {
                ring.add(other);
            }
        }
        int deepest = 0;
        for (String one : ring) {
            for (String called : calls.getOrDefault(one, Set.of())) {
                deepest = ring.contains(called) ? deepest : Math.max(deepest, deep(called, known));
            }
        }
        known.put(method, deepest + 1);
        return deepest + 1;
    }

    private static void depth() {
        due.promise("rule 11: calls go at most eight deep");
        Map<String, Integer> known = new HashMap<>();
        for (String method : calls.keySet()) {
            due.is(method + " goes " + deep(method, known), deep(method, known) <= MOST_DEEP, true);
        }
    }
}
