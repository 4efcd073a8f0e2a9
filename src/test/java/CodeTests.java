import com.sun.source.tree.ArrayTypeTree;
import com.sun.source.tree.BinaryTree;
import com.sun.source.tree.ClassTree;
import com.sun.source.tree.CompilationUnitTree;
import com.sun.source.tree.DoWhileLoopTree;
import com.sun.source.tree.EnhancedForLoopTree;
import com.sun.source.tree.ExpressionTree;
import com.sun.source.tree.ForLoopTree;
import com.sun.source.tree.MethodInvocationTree;
import com.sun.source.tree.MethodTree;
import com.sun.source.tree.NewArrayTree;
import com.sun.source.tree.NewClassTree;
import com.sun.source.tree.ParenthesizedTree;
import com.sun.source.tree.ThrowTree;
import com.sun.source.tree.Tree;
import com.sun.source.tree.VariableTree;
import com.sun.source.tree.WhileLoopTree;
import com.sun.source.util.JavacTask;
import com.sun.source.util.TreePath;
import com.sun.source.util.TreePathScanner;
import com.sun.source.util.Trees;
import java.io.IOException;
import java.nio.file.Path;
import java.util.ArrayList;
import java.util.List;
import java.util.Map;
import java.util.Set;
import java.util.TreeMap;
import java.util.TreeSet;
import javax.lang.model.element.Element;
import javax.lang.model.element.Modifier;
import javax.tools.JavaCompiler;
import javax.tools.StandardJavaFileManager;
import javax.tools.ToolProvider;

/** Rules of ../shared/LANGUAGE.md that need the compiler's own reading of the source: calls, types, loops. */
public final class CodeTests {
    private static final int DEEPEST_CALLS = 8;
    private static final Set<String> LIBRARY = Set.of(
            "java.lang.String.length", "java.lang.String.charAt", "java.lang.Math.max", "java.lang.Math.min",
            "java.lang.System.arraycopy", "java.util.Arrays.fill");
    private static final Set<String> EXCEPTIONS = Set.of(
            "IllegalArgumentException", "IllegalStateException", "IndexOutOfBoundsException");
    private static final Set<String> OUTER_TYPES = Set.of("int", "long", "byte", "boolean", "double", "void", "String");

    private CodeTests() {
    }

    public static void main(String[] args) throws IOException {
        Reading reading = read(Path.of("src/main/java/HeapGames.java"));
        Check check = new Check();
        check.due("calls of the library that are not on the list", "[]", () -> reading.strangeCalls);
        check.due("types that are not on the list", "[]", () -> strangeTypes(reading));
        check.due("objects made by a call of the face", "[]", () -> reading.madeInMethods);
        check.due("throws in constructors, or of other exceptions", "[]", () -> reading.strangeThrows);
        check.due("loops without a bound in their head", "[]", () -> reading.openLoops);
        check.due("methods that can be called while they stand open", "[]", () -> recursions(reading.calls));
        check.due("calls go at most eight deep", true, () -> deepest(reading) <= DEEPEST_CALLS);
        check.due("all methods of the face were read", 38, () -> reading.face.size());
        check.due("the loops were read", true, () -> reading.loops > 20);
        check.end();
    }

    private static Reading read(Path file) throws IOException {
        JavaCompiler compiler = ToolProvider.getSystemJavaCompiler();
        try (StandardJavaFileManager files = compiler.getStandardFileManager(null, null, null)) {
            JavacTask task = (JavacTask) compiler.getTask(null, files, null, List.of("--release", "17"), null,
                    files.getJavaFileObjects(file));
            List<CompilationUnitTree> units = new ArrayList<>();
            task.parse().forEach(units::add);
            task.analyze();
            Reading reading = new Reading(Trees.instance(task));
            reading.scan(units, null);
            return reading;
        }
    }

    private static Set<String> strangeTypes(Reading reading) {
        Set<String> found = new TreeSet<>(reading.types);
        found.removeAll(OUTER_TYPES);
        found.removeAll(reading.classes);
        return found;
    }

    private static Set<String> recursions(Map<String, Set<String>> calls) {
        Set<String> found = new TreeSet<>();
        for (String method : calls.keySet()) {
            Set<String> reached = new TreeSet<>();
            List<String> open = new ArrayList<>(calls.get(method));
            while (!open.isEmpty()) {
                String next = open.remove(open.size() - 1);
                if (reached.add(next)) {
                    open.addAll(calls.getOrDefault(next, Set.of()));
                }
            }
            if (reached.contains(method)) {
                found.add(method);
            }
        }
        return found;
    }

    private static int deepest(Reading reading) {
        int most = 0;
        for (String method : reading.face) {
            most = Math.max(most, depthOf(method, reading.calls, 1));
        }
        return most;
    }

    private static int depthOf(String method, Map<String, Set<String>> calls, int depth) {
        int most = depth;
        // a recursion would never end here; it is told by a check of its own
        if (depth > DEEPEST_CALLS) {
            return most;
        }
        for (String called : calls.getOrDefault(method, Set.of())) {
            most = Math.max(most, depthOf(called, calls, depth + 1));
        }
        return most;
    }

    private static final class Reading extends TreePathScanner<Void, Void> {
        private final Trees trees;
        private final Map<String, Set<String>> calls = new TreeMap<>();
        private final Set<String> face = new TreeSet<>();
        private final Set<String> classes = new TreeSet<>();
        private final Set<String> types = new TreeSet<>();
        private final List<String> strangeCalls = new ArrayList<>();
        private final List<String> madeInMethods = new ArrayList<>();
        private final List<String> strangeThrows = new ArrayList<>();
        private final List<String> openLoops = new ArrayList<>();
        private int loops = 0;
        private String method = "";
        private boolean isConstructor;

        Reading(Trees trees) {
            this.trees = trees;
        }

        private Element element() {
            return trees.getElement(getCurrentPath());
        }

        private static String nameOf(Element called) {
            return called.getEnclosingElement() + "." + called;
        }

        @Override
        public Void visitClass(ClassTree tree, Void nothing) {
            classes.add(tree.getSimpleName().toString());
            return super.visitClass(tree, nothing);
        }

        @Override
        public Void visitMethod(MethodTree tree, Void nothing) {
            Element declared = element();
            method = nameOf(declared);
            isConstructor = tree.getReturnType() == null;
            if (declared.getModifiers().contains(Modifier.PUBLIC) && !isConstructor) {
                face.add(method);
            }
            if (!isConstructor) {
                noteType(tree.getReturnType());
            }
            super.visitMethod(tree, nothing);
            method = "";
            return null;
        }

        @Override
        public Void visitVariable(VariableTree tree, Void nothing) {
            noteType(tree.getType());
            return super.visitVariable(tree, nothing);
        }

        private void noteType(Tree type) {
            types.add(type instanceof ArrayTypeTree ? ((ArrayTypeTree) type).getType().toString() : type.toString());
        }

        @Override
        public Void visitMethodInvocation(MethodInvocationTree tree, Void nothing) {
            Element called = trees.getElement(new TreePath(getCurrentPath(), tree.getMethodSelect()));
            String owner = called.getEnclosingElement().toString();
            if (owner.startsWith("HeapGames")) {
                calls.computeIfAbsent(method, name -> new TreeSet<>()).add(nameOf(called));
            } else if (!LIBRARY.contains(owner + "." + called.getSimpleName()) && !isHiddenSuper(called)) {
                strangeCalls.add(method + ": " + tree);
            }
            return super.visitMethodInvocation(tree, nothing);
        }

        /** The compiler writes super() into each constructor. */
        private boolean isHiddenSuper(Element called) {
            return isConstructor && called.getSimpleName().contentEquals("<init>");
        }

        @Override
        public Void visitNewClass(NewClassTree tree, Void nothing) {
            boolean isThrown = getCurrentPath().getParentPath().getLeaf() instanceof ThrowTree;
            if (!method.isEmpty() && !isConstructor && !isThrown) {
                madeInMethods.add(method + ": " + tree);
            }
            return super.visitNewClass(tree, nothing);
        }

        @Override
        public Void visitNewArray(NewArrayTree tree, Void nothing) {
            if (!method.isEmpty() && !isConstructor) {
                madeInMethods.add(method + ": " + tree);
            }
            return super.visitNewArray(tree, nothing);
        }

        @Override
        public Void visitThrow(ThrowTree tree, Void nothing) {
            ExpressionTree thrown = tree.getExpression();
            boolean isKnown = thrown instanceof NewClassTree
                    && EXCEPTIONS.contains(((NewClassTree) thrown).getIdentifier().toString());
            if (isConstructor || !isKnown) {
                strangeThrows.add(method + ": " + tree);
            }
            return super.visitThrow(tree, nothing);
        }

        @Override
        public Void visitForLoop(ForLoopTree tree, Void nothing) {
            noteLoop(tree.getCondition(), tree);
            return super.visitForLoop(tree, nothing);
        }

        @Override
        public Void visitWhileLoop(WhileLoopTree tree, Void nothing) {
            noteLoop(tree.getCondition(), tree);
            return super.visitWhileLoop(tree, nothing);
        }

        @Override
        public Void visitDoWhileLoop(DoWhileLoopTree tree, Void nothing) {
            noteLoop(tree.getCondition(), tree);
            return super.visitDoWhileLoop(tree, nothing);
        }

        @Override
        public Void visitEnhancedForLoop(EnhancedForLoopTree tree, Void nothing) {
            loops++;
            return super.visitEnhancedForLoop(tree, nothing);
        }

        private void noteLoop(ExpressionTree condition, Tree loop) {
            loops++;
            if (!isBound(condition)) {
                openLoops.add(method + ": " + loop);
            }
        }

        /** Of conditions that have to hold together one bound is enough. */
        private static boolean isBound(Tree condition) {
            if (condition instanceof ParenthesizedTree) {
                return isBound(((ParenthesizedTree) condition).getExpression());
            }
            if (!(condition instanceof BinaryTree)) {
                return false;
            }
            BinaryTree both = (BinaryTree) condition;
            switch (condition.getKind()) {
                case LESS_THAN: case LESS_THAN_EQUAL: case GREATER_THAN: case GREATER_THAN_EQUAL: return true;
                case CONDITIONAL_AND: return isBound(both.getLeftOperand()) || isBound(both.getRightOperand());
                default: return false;
            }
        }
    }
}
