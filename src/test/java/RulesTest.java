import com.sun.source.tree.*;
import com.sun.source.util.JavacTask;
import com.sun.source.util.TreePath;
import com.sun.source.util.TreePathScanner;
import com.sun.source.util.Trees;
import java.nio.file.Path;
import java.util.ArrayList;
import java.util.HashMap;
import java.util.LinkedHashMap;
import java.util.LinkedHashSet;
import java.util.List;
import java.util.Map;
import java.util.Set;
import javax.lang.model.element.Element;
import javax.lang.model.element.ElementKind;
import javax.lang.model.element.ExecutableElement;
import javax.lang.model.element.Modifier;
import javax.lang.model.element.TypeElement;
import javax.lang.model.type.ArrayType;
import javax.lang.model.type.TypeKind;
import javax.lang.model.type.TypeMirror;
import javax.tools.JavaCompiler;
import javax.tools.StandardJavaFileManager;
import javax.tools.ToolProvider;

/** The rules of LANGUAGE.md that javac's own tree of the file shows: 1 to 6, 8 and 10 to 12. */
public final class RulesTest {
    private static final Due T = new Due("RulesTest");
    private static final Path FILE = Path.of("src/main/java/TepidByTreaty.java");
    private static final String OUTER = "TepidByTreaty";

    /** Rule 4, as far as "what it lists" goes; of Integer, Long and Math see isOfTheLibrary(). */
    private static final Map<String, Set<String>> LIBRARY = Map.of(
        "java.lang.String", Set.of("length", "charAt", "isEmpty", "equals", "indexOf", "substring", "toCharArray"),
        "java.lang.StringBuilder", Set.of("append", "charAt", "setCharAt", "setLength", "deleteCharAt", "reverse", "length", "toString"),
        "java.util.ArrayList", Set.of("add", "get", "set", "remove", "size", "isEmpty", "clear"),
        "java.util.List", Set.of("add", "get", "set", "remove", "size", "isEmpty", "clear", "of"),
        "java.lang.System", Set.of("arraycopy"),
        "java.util.Arrays", Set.of("copyOf", "copyOfRange", "fill"));

    private static final Set<Tree.Kind> NEVER = Set.of(
        Tree.Kind.THROW, Tree.Kind.TRY, Tree.Kind.CATCH, Tree.Kind.SYNCHRONIZED, Tree.Kind.ASSERT, Tree.Kind.LAMBDA_EXPRESSION,
        Tree.Kind.MEMBER_REFERENCE, Tree.Kind.PACKAGE);

    public static void main(String[] args) throws Exception {
        Seen seen = new Seen();
        JavaCompiler javac = ToolProvider.getSystemJavaCompiler();
        try (StandardJavaFileManager files = javac.getStandardFileManager(null, null, null)) {
            JavacTask task = (JavacTask) javac.getTask(null, files, null, List.of("-proc:none"), null, files.getJavaFileObjects(FILE));
            Iterable<? extends CompilationUnitTree> units = task.parse();
            task.analyze();
            seen.trees = Trees.instance(task);
            for (CompilationUnitTree unit : units) {
                seen.unit = unit;
                T.due("types at the top of the file", unit.getTypeDecls().size(), 1);
                seen.scan(unit, null);
            }
        }
        T.isTrue("some methods were seen", seen.calls.size() > 60);
        T.isTrue("some twelve classes", seen.classes <= 12);
        new Depth(seen.calls, seen.isPrivate).asks();
        T.end();
    }

    /** Walks the file; what is not as the rules say is told where it stands. */
    private static final class Seen extends TreePathScanner<Void, Void> {
        Trees trees;
        CompilationUnitTree unit;
        int classes;
        final Map<String, Set<String>> calls = new LinkedHashMap<>();
        final Map<String, Boolean> isPrivate = new HashMap<>();
        private String method = "";

        private void holds(String rule, Tree tree, boolean holds) {
            long line = unit.getLineMap().getLineNumber(trees.getSourcePositions().getStartPosition(unit, tree));
            T.isTrue("line " + line + ", " + rule, holds);
        }

        private Element element(Tree tree) {
            return trees.getElement(TreePath.getPath(unit, tree));
        }

        private TypeMirror type(Tree tree) {
            return trees.getTypeMirror(TreePath.getPath(unit, tree));
        }

        @Override public Void scan(Tree tree, Void none) {
            if (tree != null) holds("nowhere " + tree.getKind(), tree, !NEVER.contains(tree.getKind()));
            return super.scan(tree, none);
        }

        @Override public Void visitClass(ClassTree tree, Void none) {
            Element e = element(tree);
            boolean outer = e.getSimpleName().contentEquals(OUTER);
            classes++;
            Set<Modifier> modifiers = e.getModifiers();
            boolean inside = e.getEnclosingElement().getKind().isClass() && modifiers.contains(Modifier.STATIC) && !modifiers.contains(Modifier.PUBLIC);
            holds("rules 1 and 2: static, inside, of a name", tree, outer ? e.getEnclosingElement().getKind() == ElementKind.PACKAGE : inside);
            int fields = 0;
            for (Tree member : tree.getMembers()) {
                holds("rule 5: no block of its own", member, member.getKind() != Tree.Kind.BLOCK);
                if (member instanceof VariableTree field && !element(field).getModifiers().contains(Modifier.STATIC)) fields++;
            }
            holds("rule 11: some twenty fields", tree, fields <= 20);
            return super.visitClass(tree, none);
        }

        @Override public Void visitVariable(VariableTree tree, Void none) {
            Element e = element(tree);
            holds("rule 3: " + e.asType(), tree, isSound(e.asType(), 1));
            if (e.getKind() == ElementKind.FIELD && e.getModifiers().contains(Modifier.STATIC)) {
                holds("rule 5: final", tree, e.getModifiers().contains(Modifier.FINAL));
                boolean row = e.asType().getKind() == TypeKind.ARRAY && isWrittenOut(tree.getInitializer());
                boolean constant = ((javax.lang.model.element.VariableElement) e).getConstantValue() != null;
                holds("rule 5: a constant, or a row that is written out", tree, row || constant);
            }
            return super.visitVariable(tree, none);
        }

        private static boolean isWrittenOut(Tree initializer) {
            return initializer instanceof NewArrayTree row && row.getInitializers() != null && !row.getInitializers().isEmpty();
        }

        /** Rule 3: numbers, own classes, texts; arrays of one dimension, of numbers also of two. */
        private static boolean isSound(TypeMirror type, int arraysOfOwn) {
            if (type.getKind().isPrimitive()) return true;
            if (type instanceof ArrayType row) {
                TypeMirror of = row.getComponentType();
                if (of.getKind().isPrimitive()) return true;
                if (of instanceof ArrayType inner) return inner.getComponentType().getKind().isPrimitive();
                return arraysOfOwn > 0 && isSound(of, 0);
            }
            String name = type.toString();
            return name.startsWith(OUTER) || name.equals("java.lang.String") || name.equals("java.lang.StringBuilder")
                || name.startsWith("java.util.ArrayList<") || name.startsWith("java.util.List<");
        }

        @Override public Void visitMethod(MethodTree tree, Void none) {
            ExecutableElement e = (ExecutableElement) element(tree);
            String ahead = method;
            method = nameOf(e);
            calls.putIfAbsent(method, new LinkedHashSet<>());
            isPrivate.put(method, e.getModifiers().contains(Modifier.PRIVATE));
            holds("rule 11: seven parameters", tree, tree.getParameters().size() <= 7);
            long from = unit.getLineMap().getLineNumber(Math.max(0, trees.getSourcePositions().getStartPosition(unit, tree)));
            long till = unit.getLineMap().getLineNumber(Math.max(0, trees.getSourcePositions().getEndPosition(unit, tree)));
            holds("rule 11: some sixty lines", tree, till - from < 60);
            if (e.getReturnType().getKind() != TypeKind.VOID) holds("rule 3: " + e.getReturnType(), tree, isSound(e.getReturnType(), 1));
            super.visitMethod(tree, none);
            method = ahead;
            return null;
        }

        private static String nameOf(ExecutableElement e) {
            return ((TypeElement) e.getEnclosingElement()).getQualifiedName() + "." + e;
        }

        @Override public Void visitMethodInvocation(MethodInvocationTree tree, Void none) {
            ExecutableElement e = (ExecutableElement) element(tree);
            String owner = ((TypeElement) e.getEnclosingElement()).getQualifiedName().toString();
            if (owner.startsWith(OUTER)) {
                calls.get(method).add(nameOf(e));
            } else if (e.getKind() != ElementKind.CONSTRUCTOR) {
                holds("rule 4: " + owner + "." + e, tree, isOfTheLibrary(owner, e));
            }
            return super.visitMethodInvocation(tree, none);
        }

        private static boolean isOfTheLibrary(String owner, ExecutableElement e) {
            String name = e.getSimpleName().toString();
            if (owner.equals("java.lang.Integer") || owner.equals("java.lang.Long") || owner.equals("java.lang.Math")) {
                boolean whole = e.getReturnType().getKind() == TypeKind.INT || e.getReturnType().getKind() == TypeKind.LONG;
                boolean ofWhole = e.getParameters().stream().allMatch(p -> p.asType().getKind() == TypeKind.INT || p.asType().getKind() == TypeKind.LONG);
                return e.getModifiers().contains(Modifier.STATIC) && whole && ofWhole && !name.endsWith("Exact");
            }
            return LIBRARY.getOrDefault(owner, Set.of()).contains(name);
        }

        @Override public Void visitNewClass(NewClassTree tree, Void none) {
            holds("rule 2: no class without a name", tree, tree.getClassBody() == null);
            makes(tree);
            Element e = element(tree);
            if (!method.isEmpty() && e instanceof ExecutableElement made) calls.get(method).add(nameOf(made));
            return super.visitNewClass(tree, none);
        }

        @Override public Void visitNewArray(NewArrayTree tree, Void none) {
            makes(tree);
            return super.visitNewArray(tree, none);
        }

        /** Rule 12 and the one room: rows are made with the object, so no call makes any. */
        private void makes(Tree tree) {
            holds("rule 12: made with the object", tree, method.isEmpty() || method.contains("." + OUTER + "("));
        }

        @Override public Void visitBinary(BinaryTree tree, Void none) {
            TypeMirror left = type(tree.getLeftOperand());
            TypeMirror right = type(tree.getRightOperand());
            holds("rules 6 and 10: of numbers, truths or own classes", tree, isNoText(left) && isNoText(right));
            return super.visitBinary(tree, none);
        }

        @Override public Void visitCompoundAssignment(CompoundAssignmentTree tree, Void none) {
            holds("rule 10: of numbers", tree, type(tree.getVariable()).getKind().isPrimitive());
            return super.visitCompoundAssignment(tree, none);
        }

        private static boolean isNoText(TypeMirror type) {
            return type.getKind().isPrimitive() || type.getKind() == TypeKind.NULL || type.toString().startsWith(OUTER);
        }

        @Override public Void visitLiteral(LiteralTree tree, Void none) {
            if (tree.getValue() instanceof String s) {
                holds("rule 4: signs 1 to 127", tree, s.chars().allMatch(c -> c >= 1 && c <= 127));
            }
            return super.visitLiteral(tree, none);
        }
    }

    /** How deep calls go: methods that call one another in a ring are recursion, and count as one. */
    private static final class Depth {
        private final Map<String, Set<String>> calls;
        private final Map<String, Boolean> isPrivate;
        private final Map<String, Set<String>> reached = new HashMap<>();

        Depth(Map<String, Set<String>> calls, Map<String, Boolean> isPrivate) {
            this.calls = calls;
            this.isPrivate = isPrivate;
            for (String from : calls.keySet()) reached.put(from, reachedFrom(from));
        }

        private Set<String> reachedFrom(String from) {
            Set<String> met = new LinkedHashSet<>();
            List<String> left = new ArrayList<>(calls.get(from));
            while (!left.isEmpty()) {
                String next = left.remove(left.size() - 1);
                if (met.add(next)) left.addAll(calls.getOrDefault(next, Set.of()));
            }
            return met;
        }

        private boolean isInARing(String one, String other) {
            return one.equals(other) || reached.get(one).contains(other) && reached.getOrDefault(other, Set.of()).contains(one);
        }

        /** The calls open at once below one, she herself counted; a ring counts as one. */
        private int below(String from) {
            int most = 0;
            Set<String> ring = new LinkedHashSet<>();
            for (String m : calls.keySet()) if (isInARing(from, m)) ring.add(m);
            for (String m : ring) {
                for (String next : calls.get(m)) {
                    if (calls.containsKey(next) && !ring.contains(next)) most = Math.max(most, below(next));
                }
            }
            return 1 + most;
        }

        void asks() {
            for (String m : calls.keySet()) {
                boolean recursive = reached.get(m).contains(m);
                T.isTrue("rule 8: " + m + ", which calls itself, is private", !recursive || isPrivate.get(m));
                T.isTrue("rule 11: " + m + " goes eight deep at most, is " + below(m), below(m) <= 8);
            }
        }
    }
}
