import com.sun.source.tree.AssignmentTree;
import com.sun.source.tree.ClassTree;
import com.sun.source.tree.CompilationUnitTree;
import com.sun.source.tree.CompoundAssignmentTree;
import com.sun.source.tree.ExpressionStatementTree;
import com.sun.source.tree.ForLoopTree;
import com.sun.source.tree.LineMap;
import com.sun.source.tree.MethodInvocationTree;
import com.sun.source.tree.MethodTree;
import com.sun.source.tree.NewClassTree;
import com.sun.source.tree.Tree;
import com.sun.source.tree.UnaryTree;
import com.sun.source.tree.VariableTree;
import com.sun.source.util.JavacTask;
import com.sun.source.util.SourcePositions;
import com.sun.source.util.TreePath;
import com.sun.source.util.TreePathScanner;
import com.sun.source.util.TreeScanner;
import com.sun.source.util.Trees;
import java.io.IOException;
import java.nio.file.Path;
import java.util.ArrayList;
import java.util.EnumSet;
import java.util.List;
import java.util.Map;
import java.util.Set;
import java.util.TreeMap;
import java.util.TreeSet;
import javax.lang.model.element.Element;
import javax.lang.model.element.Modifier;
import javax.lang.model.element.TypeElement;
import javax.tools.JavaCompiler;
import javax.tools.StandardJavaFileManager;
import javax.tools.ToolProvider;

/** The rules of LANGUAGE.md that show in the parsed program: what it may not hold, sizes, ends of loops, how deep calls go. */
public final class RulesTest {
    private static final int MOST_LINES = 60, MOST_PARAMETERS = 7, MOST_CLASSES = 12, MOST_DEEP = 8;
    private static final Set<Tree.Kind> FORBIDDEN = EnumSet.of(Tree.Kind.LAMBDA_EXPRESSION, Tree.Kind.MEMBER_REFERENCE,
        Tree.Kind.THROW, Tree.Kind.TRY, Tree.Kind.CATCH, Tree.Kind.ASSERT, Tree.Kind.SYNCHRONIZED, Tree.Kind.ANNOTATION,
        Tree.Kind.SWITCH_EXPRESSION, Tree.Kind.STRING_LITERAL, Tree.Kind.WHILE_LOOP, Tree.Kind.DO_WHILE_LOOP);
    private static final Set<String> TYPES = Set.of("int", "long", "boolean", "int[]", "boolean[]");

    private final CompilationUnitTree unit;
    private final Trees trees;
    private final Set<String> classes = new TreeSet<>();
    private final Map<String, Set<String>> calls = new TreeMap<>();

    private RulesTest(CompilationUnitTree unit, Trees trees) {
        this.unit = unit;
        this.trees = trees;
    }

    public static void main(String[] args) throws IOException {
        JavaCompiler compiler = ToolProvider.getSystemJavaCompiler();
        try (StandardJavaFileManager files = compiler.getStandardFileManager(null, null, null)) {
            JavacTask task = (JavacTask) compiler.getTask(null, files, null, List.of("-proc:none"), null,
                files.getJavaFileObjects(Path.of("src/main/java/PageRounds.java")));
            CompilationUnitTree unit = task.parse().iterator().next();
            task.analyze();
            new RulesTest(unit, Trees.instance(task)).go();
        }
        Check.end();
    }

    private void go() {
        new Classes().scan(unit, null);
        new Rules().scan(unit, null);
        new Calls().scan(unit, null);
        Check.holds("rule 11: at most twelve classes: " + classes, classes.size() <= MOST_CLASSES);
        Check.holds("calls were seen: " + calls.size(), calls.size() > 50);
        for (String caller : calls.keySet()) {
            int deep = depth(caller, List.of());
            Check.holds("rule 11: calls from " + caller + " go " + deep + " deep", deep <= MOST_DEEP);
        }
    }

    /** How many calls stand open at once, the first among them. */
    private int depth(String caller, List<String> open) {
        if (open.contains(caller)) {
            Check.holds("no recursion: " + caller + " behind " + open, false);
            return 0;
        }
        List<String> way = new ArrayList<>(open);
        way.add(caller);
        int deepest = 0;
        for (String called : calls.getOrDefault(caller, Set.of())) {
            deepest = Math.max(deepest, depth(called, way));
        }
        return 1 + deepest;
    }

    private final class Classes extends TreeScanner<Void, Void> {
        @Override
        public Void visitClass(ClassTree one, Void none) {
            classes.add(one.getSimpleName().toString());
            return super.visitClass(one, none);
        }
    }

    private final class Rules extends TreePathScanner<Void, Void> {
        @Override
        public Void scan(Tree tree, Void none) {
            if (tree != null) {
                Check.holds("none of kind " + tree.getKind() + " in line " + line(tree), !FORBIDDEN.contains(tree.getKind()));
            }
            return super.scan(tree, none);
        }

        @Override
        public Void visitClass(ClassTree one, Void none) {
            Tree.Kind around = getCurrentPath().getParentPath().getLeaf().getKind();
            boolean isOuter = around == Tree.Kind.COMPILATION_UNIT;
            Set<Modifier> is = one.getModifiers().getFlags();
            Check.holds("rule 2: " + one.getSimpleName() + " is static inside the class",
                isOuter || around == Tree.Kind.CLASS && is.contains(Modifier.STATIC));
            return super.visitClass(one, none);
        }

        @Override
        public Void visitMethod(MethodTree method, Void none) {
            long lines = lastLine(method) - line(method) + 1;
            Check.holds("rule 11: " + method.getName() + " has " + lines + " lines", lines <= MOST_LINES);
            Check.holds("rule 11: parameters of " + method.getName(), method.getParameters().size() <= MOST_PARAMETERS);
            return super.visitMethod(method, none);
        }

        @Override
        public Void visitVariable(VariableTree variable, Void none) {
            String type = variable.getType().toString();
            Check.holds("rule 3: type " + type + " in line " + line(variable),
                TYPES.contains(type) || classes.contains(type.replace("[]", "")));
            return super.visitVariable(variable, none);
        }

        @Override
        public Void visitForLoop(ForLoopTree loop, Void none) {
            boolean isCounted = loop.getInitializer().size() == 1 && loop.getInitializer().get(0) instanceof VariableTree
                && loop.getCondition() != null && loop.getUpdate().size() == 1 && isStep(loop.getUpdate().get(0));
            Check.holds("rule 9: the loop in line " + line(loop) + " has a counter and a bound", isCounted);
            if (isCounted) {
                String counter = ((VariableTree) loop.getInitializer().get(0)).getName().toString();
                new Counters(counter).scan(loop.getStatement(), null);
            }
            return super.visitForLoop(loop, none);
        }

        private boolean isStep(ExpressionStatementTree update) {
            return update.getExpression().getKind() == Tree.Kind.POSTFIX_INCREMENT;
        }
    }

    /** Nothing in a loop's body sets its counter. */
    private final class Counters extends TreeScanner<Void, Void> {
        private final String counter;

        private Counters(String counter) {
            this.counter = counter;
        }

        private void looked(Tree set, Tree at) {
            Check.holds("rule 9: the counter set in line " + line(at), !set.toString().equals(counter));
        }

        @Override
        public Void visitAssignment(AssignmentTree set, Void none) {
            looked(set.getVariable(), set);
            return super.visitAssignment(set, none);
        }

        @Override
        public Void visitCompoundAssignment(CompoundAssignmentTree set, Void none) {
            looked(set.getVariable(), set);
            return super.visitCompoundAssignment(set, none);
        }

        @Override
        public Void visitUnary(UnaryTree sign, Void none) {
            boolean sets = sign.getKind().name().endsWith("CREMENT");
            if (sets) {
                looked(sign.getExpression(), sign);
            }
            return super.visitUnary(sign, none);
        }
    }

    /** Who calls whom; what stands in a field's initialiser is called by the constructors of its class. */
    private final class Calls extends TreePathScanner<Void, Void> {
        @Override
        public Void visitMethodInvocation(MethodInvocationTree call, Void none) {
            note(trees.getElement(getCurrentPath()));
            return super.visitMethodInvocation(call, none);
        }

        @Override
        public Void visitNewClass(NewClassTree made, Void none) {
            Check.holds("rule 2: no class without a name in line " + line(made), made.getClassBody() == null);
            note(trees.getElement(getCurrentPath()));
            return super.visitNewClass(made, none);
        }

        private void note(Element called) {
            if (!called.toString().equals("Object()")) {
                calls.computeIfAbsent(caller(), name -> new TreeSet<>()).add(name(called));
            }
        }

        private String caller() {
            TreePath path = getCurrentPath();
            while (path.getLeaf().getKind() != Tree.Kind.METHOD && path.getParentPath().getLeaf().getKind() != Tree.Kind.CLASS) {
                path = path.getParentPath();
            }
            return path.getLeaf().getKind() == Tree.Kind.METHOD ? name(trees.getElement(path))
                : className(trees.getElement(path.getParentPath())) + ".<init>";
        }

        private String name(Element method) {
            return className(method.getEnclosingElement()) + "." + method.getSimpleName();
        }

        private String className(Element one) {
            return ((TypeElement) one).getQualifiedName().toString();
        }
    }

    private long line(Tree tree) {
        return lineOf(positions().getStartPosition(unit, tree));
    }

    private long lastLine(Tree tree) {
        return lineOf(positions().getEndPosition(unit, tree));
    }

    private SourcePositions positions() {
        return trees.getSourcePositions();
    }

    private long lineOf(long position) {
        LineMap lines = unit.getLineMap();
        return position < 0 ? 0 : lines.getLineNumber(position);
    }
}
