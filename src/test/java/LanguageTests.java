import com.sun.source.tree.ArrayAccessTree;
import com.sun.source.tree.AssignmentTree;
import com.sun.source.tree.BinaryTree;
import com.sun.source.tree.BlockTree;
import com.sun.source.tree.ClassTree;
import com.sun.source.tree.CompilationUnitTree;
import com.sun.source.tree.CompoundAssignmentTree;
import com.sun.source.tree.ExpressionTree;
import com.sun.source.tree.ForLoopTree;
import com.sun.source.tree.ImportTree;
import com.sun.source.tree.InstanceOfTree;
import com.sun.source.tree.MethodInvocationTree;
import com.sun.source.tree.MethodTree;
import com.sun.source.tree.NewArrayTree;
import com.sun.source.tree.NewClassTree;
import com.sun.source.tree.Tree;
import com.sun.source.tree.TypeCastTree;
import com.sun.source.tree.UnaryTree;
import com.sun.source.tree.VariableTree;
import com.sun.source.tree.WhileLoopTree;
import com.sun.source.util.JavacTask;
import com.sun.source.util.SourcePositions;
import com.sun.source.util.TreePath;
import com.sun.source.util.TreePathScanner;
import com.sun.source.util.Trees;
import java.io.File;
import java.util.ArrayDeque;
import java.util.Deque;
import java.util.HashMap;
import java.util.List;
import java.util.Map;
import java.util.Set;
import java.util.TreeSet;
import javax.lang.model.element.Element;
import javax.lang.model.element.ElementKind;
import javax.lang.model.element.Modifier;
import javax.lang.model.type.ArrayType;
import javax.lang.model.type.TypeMirror;
import javax.tools.JavaCompiler;
import javax.tools.StandardJavaFileManager;
import javax.tools.ToolProvider;

/** The rules of LANGUAGE.md, each by its number, looked up in the tree that the compiler makes of the source. */
public final class LanguageTests extends Faults {
    private static final String SOURCE = "src/main/java/MixRounds.java";
    private static final Set<String> NUMBERS = Set.of("int", "long", "short", "byte", "char", "boolean");
    private static final Set<String> TEXTS = Set.of("java.lang.String", "java.lang.StringBuilder");
    private static final Set<String> LIBRARY = Set.of("java.lang.Math.max", "java.lang.Math.min", "java.lang.Math.abs",
        "java.lang.System.arraycopy", "java.util.Arrays.fill", "java.util.Arrays.copyOf", "java.util.Arrays.copyOfRange");
    private static final Set<String> STATIC_ROWS = Set.of("int[]", "long[]", "char[]", "byte[]");
    private static final Map<Tree.Kind, Integer> RULED_OUT = Map.of(Tree.Kind.LAMBDA_EXPRESSION, 2, Tree.Kind.MEMBER_REFERENCE, 2,
        Tree.Kind.THROW, 6, Tree.Kind.TRY, 6, Tree.Kind.SYNCHRONIZED, 6, Tree.Kind.ASSERT, 6);
    private static final Set<Tree.Kind> STEPS = Set.of(Tree.Kind.PREFIX_INCREMENT, Tree.Kind.PREFIX_DECREMENT,
        Tree.Kind.POSTFIX_INCREMENT, Tree.Kind.POSTFIX_DECREMENT);
    private static final int MOST_PARAMETERS = 7, MOST_LINES = 60, MOST_DEEP = 8, MOST_CLASSES = 12, MOST_FIELDS = 20;

    private static boolean own(String type) {
        return type.equals("MixRounds") || type.startsWith("MixRounds.");
    }

    private static boolean allowed(TypeMirror type) {
        String name = type.toString();
        if (name.endsWith("[][]")) {
            return NUMBERS.contains(name.substring(0, name.length() - 4));
        }
        String part = type instanceof ArrayType row ? row.getComponentType().toString() : name;
        return NUMBERS.contains(part) || own(part) || TEXTS.contains(part) || name.equals("void");
    }

    /** Walks over the source; what is found wrong is told with the rule's number and the line. */
    private static final class Walk extends TreePathScanner<Void, Void> {
        private final Trees trees;
        private final CompilationUnitTree unit;
        private final SourcePositions places;
        private final Deque<String> standing = new ArrayDeque<>();
        final Map<String, Set<String>> calls = new HashMap<>();
        int classes = 0;

        Walk(Trees trees, CompilationUnitTree unit) {
            this.trees = trees;
            this.unit = unit;
            this.places = trees.getSourcePositions();
        }

        private long line(long place) {
            return unit.getLineMap().getLineNumber(place);
        }

        private void rule(int number, boolean good, Tree at, String what) {
            hold(good, "rule " + number + ", line " + line(places.getStartPosition(unit, at)) + ": " + what);
        }

        private Element element(Tree tree) {
            return trees.getElement(new TreePath(getCurrentPath(), tree));
        }

        private String type(Tree tree) {
            TypeMirror type = trees.getTypeMirror(new TreePath(getCurrentPath(), tree));
            return type == null ? "" : type.toString();
        }

        private void calls(String name) {
            calls.computeIfAbsent(standing.peek(), k -> new TreeSet<>()).add(name);
        }

        @Override
        public Void scan(Tree tree, Void v) {
            if (tree != null && RULED_OUT.containsKey(tree.getKind())) {
                rule(RULED_OUT.get(tree.getKind()), false, tree, tree.getKind().toString());
            }
            return super.scan(tree, v);
        }

        @Override
        public Void visitImport(ImportTree tree, Void v) {
            String name = tree.getQualifiedIdentifier().toString();
            rule(4, !tree.isStatic() && Set.of("java.util.Arrays", "java.util.ArrayList", "java.util.List").contains(name), tree, name);
            return null;
        }

        @Override
        public Void visitClass(ClassTree tree, Void v) {
            Set<Modifier> marks = tree.getModifiers().getFlags();
            boolean outer = getCurrentPath().getParentPath().getLeaf() == unit;
            boolean local = !outer && !(getCurrentPath().getParentPath().getLeaf() instanceof ClassTree);
            rule(2, !local, tree, "a local or anonymous class");
            rule(1, !outer || marks.containsAll(Set.of(Modifier.PUBLIC, Modifier.FINAL)), tree, "not public and final");
            rule(2, outer || marks.contains(Modifier.STATIC), tree, "an inner class that isn't static");
            classes++;
            int fields = 0;
            for (Tree member : tree.getMembers()) {
                rule(5, !(member instanceof BlockTree), member, "an initialiser block");
                boolean field = member instanceof VariableTree f && !f.getModifiers().getFlags().contains(Modifier.STATIC);
                fields += field ? 1 : 0;
            }
            rule(11, fields <= MOST_FIELDS, tree, fields + " fields");
            standing.push(element(tree).toString());
            super.visitClass(tree, v);
            standing.pop();
            return null;
        }

        @Override
        public Void visitMethod(MethodTree tree, Void v) {
            Element method = trees.getElement(getCurrentPath());
            long lines = line(places.getEndPosition(unit, tree)) - line(places.getStartPosition(unit, tree)) + 1;
            String name = tree.getName().toString();
            rule(11, tree.getParameters().size() <= MOST_PARAMETERS, tree, name + " takes too many parameters");
            rule(11, lines <= MOST_LINES, tree, name + " has " + lines + " lines");
            rule(6, !Set.of("equals", "hashCode", "toString").contains(name), tree, name);
            rule(6, tree.getThrows().isEmpty(), tree, name + " throws");
            rule(3, tree.getReturnType() == null || allowed(trees.getTypeMirror(new TreePath(getCurrentPath(), tree.getReturnType()))),
                tree, "the answer's type of " + name);
            boolean made = method.getKind() == ElementKind.CONSTRUCTOR;
            standing.push(made ? method.getEnclosingElement().toString() : method.getEnclosingElement() + "." + method);
            super.visitMethod(tree, v);
            standing.pop();
            return null;
        }

        @Override
        public Void visitVariable(VariableTree tree, Void v) {
            Element variable = trees.getElement(getCurrentPath());
            rule(3, allowed(variable.asType()), tree, tree.getName() + " is of type " + variable.asType());
            if (variable.getKind() == ElementKind.FIELD && variable.getModifiers().contains(Modifier.STATIC)) {
                String type = variable.asType().toString();
                boolean row = STATIC_ROWS.contains(type) && tree.getInitializer() instanceof NewArrayTree a && a.getInitializers() != null;
                boolean one = Set.of("int", "long", "boolean", "char", "java.lang.String").contains(type);
                rule(5, variable.getModifiers().contains(Modifier.FINAL) && (row || one), tree, "static " + tree.getName());
            }
            return super.visitVariable(tree, v);
        }

        @Override
        public Void visitMethodInvocation(MethodInvocationTree tree, Void v) {
            Element method = element(tree);
            String owner = method.getEnclosingElement().toString();
            if (own(owner)) {
                calls(owner + "." + method);
            } else {
                String name = owner + "." + method.getSimpleName();
                boolean copy = method.getSimpleName().contentEquals("clone")
                    && tree.getMethodSelect().toString().endsWith(".clone") && type(tree).endsWith("[]");
                boolean toSuper = tree.getMethodSelect().toString().equals("super");
                rule(4, LIBRARY.contains(name) || copy || toSuper, tree, name);
            }
            return super.visitMethodInvocation(tree, v);
        }

        @Override
        public Void visitNewClass(NewClassTree tree, Void v) {
            rule(3, own(type(tree)), tree, "new " + type(tree));
            rule(12, own(standing.peek()) && !standing.peek().contains("("), tree, "an object made by a call, not by a constructor");
            calls(type(tree));
            return super.visitNewClass(tree, v);
        }

        @Override
        public Void visitNewArray(NewArrayTree tree, Void v) {
            rule(12, !standing.peek().contains("("), tree, "a row made by a call, not by a constructor");
            return super.visitNewArray(tree, v);
        }

        private void put(ExpressionTree target) {
            if (target instanceof ArrayAccessTree place) {
                Element row = element(place.getExpression());
                rule(5, row == null || !row.getModifiers().contains(Modifier.STATIC), target, "a constant row is changed");
            }
        }

        @Override
        public Void visitUnary(UnaryTree tree, Void v) {
            if (STEPS.contains(tree.getKind())) {
                put(tree.getExpression());
            }
            return super.visitUnary(tree, v);
        }

        @Override
        public Void visitAssignment(AssignmentTree tree, Void v) {
            put(tree.getVariable());
            return super.visitAssignment(tree, v);
        }

        @Override
        public Void visitCompoundAssignment(CompoundAssignmentTree tree, Void v) {
            put(tree.getVariable());
            rule(10, !type(tree).equals("java.lang.String"), tree, "texts joined by +");
            return super.visitCompoundAssignment(tree, v);
        }

        @Override
        public Void visitBinary(BinaryTree tree, Void v) {
            rule(10, !type(tree).equals("java.lang.String"), tree, "texts joined by +");
            return super.visitBinary(tree, v);
        }

        @Override
        public Void visitTypeCast(TypeCastTree tree, Void v) {
            rule(6, NUMBERS.contains(type(tree)), tree, "a cast to " + type(tree));
            return super.visitTypeCast(tree, v);
        }

        @Override
        public Void visitForLoop(ForLoopTree tree, Void v) {
            rule(9, tree.getCondition() != null, tree, "a loop without an end");
            return super.visitForLoop(tree, v);
        }

        @Override
        public Void visitWhileLoop(WhileLoopTree tree, Void v) {
            rule(9, tree.getCondition().toString().contains("<"), tree, "a loop without a bound");
            return super.visitWhileLoop(tree, v);
        }

        @Override
        public Void visitInstanceOf(InstanceOfTree tree, Void v) {
            rule(6, tree.getPattern() == null || own(type(tree.getExpression())), tree, "instanceof");
            return super.visitInstanceOf(tree, v);
        }
    }

    /** How deep calls go from one on; a call that comes back to itself is a fault, as the class needs no recursion. */
    private static int depth(Map<String, Set<String>> calls, String from, Set<String> open) {
        if (!open.add(from)) {
            hold(false, "rule 8: " + from + " calls itself");
            return 0;
        }
        int deepest = 0;
        for (String next : calls.getOrDefault(from, Set.of())) {
            deepest = Math.max(deepest, depth(calls, next, open));
        }
        open.remove(from);
        return deepest + 1;
    }

    public static void main(String[] args) throws Exception {
        JavaCompiler compiler = ToolProvider.getSystemJavaCompiler();
        try (StandardJavaFileManager files = compiler.getStandardFileManager(null, null, null)) {
            JavacTask task = (JavacTask) compiler.getTask(null, files, null, List.of("-proc:none"), null,
                files.getJavaFileObjects(new File(args.length > 0 ? args[0] : SOURCE)));
            CompilationUnitTree unit = task.parse().iterator().next();
            task.analyze();
            hold(unit.getPackageName() == null && unit.getTypeDecls().size() == 1, "rule 1: one class without a package");
            Walk walk = new Walk(Trees.instance(task), unit);
            walk.scan(unit, null);
            hold(walk.classes <= MOST_CLASSES, "rule 11: " + walk.classes + " classes");
            hold(walk.calls.size() > 40, "calls were not found: " + walk.calls.keySet());
            for (String from : walk.calls.keySet()) {
                int deep = depth(walk.calls, from, new TreeSet<>());
                hold(deep <= MOST_DEEP, "rule 11: calls go " + deep + " deep from " + from);
            }
        }
        end("the rules of the language are kept");
    }
}
