import com.sun.source.tree.AssertTree;
import com.sun.source.tree.BinaryTree;
import com.sun.source.tree.BlockTree;
import com.sun.source.tree.ClassTree;
import com.sun.source.tree.CompilationUnitTree;
import com.sun.source.tree.CompoundAssignmentTree;
import com.sun.source.tree.ExpressionTree;
import com.sun.source.tree.IdentifierTree;
import com.sun.source.tree.LambdaExpressionTree;
import com.sun.source.tree.MemberReferenceTree;
import com.sun.source.tree.MemberSelectTree;
import com.sun.source.tree.MethodInvocationTree;
import com.sun.source.tree.MethodTree;
import com.sun.source.tree.NewArrayTree;
import com.sun.source.tree.NewClassTree;
import com.sun.source.tree.SynchronizedTree;
import com.sun.source.tree.ThrowTree;
import com.sun.source.tree.Tree;
import com.sun.source.tree.TryTree;
import com.sun.source.tree.TypeCastTree;
import com.sun.source.tree.VariableTree;
import com.sun.source.util.JavacTask;
import com.sun.source.util.TreePathScanner;
import com.sun.source.util.Trees;
import java.nio.file.Path;
import java.util.ArrayList;
import java.util.HashSet;
import java.util.LinkedHashMap;
import java.util.List;
import java.util.Map;
import java.util.Set;
import java.util.TreeSet;
import javax.lang.model.element.Element;
import javax.lang.model.element.ElementKind;
import javax.lang.model.element.Modifier;
import javax.lang.model.element.VariableElement;
import javax.tools.JavaCompiler;
import javax.tools.StandardJavaFileManager;
import javax.tools.ToolProvider;

/**
 * The rules of LANGUAGE.md that can be seen in the program's own tree, as javac reads it: what it
 * calls, which types it names, how long its methods are and how deep its calls go.
 */
public final class RulesTest {
    private static final String SOURCE = "src/main/java/SheetRefs.java";

    private static final Set<String> LIBRARY = Set.of(
        "java.util.Arrays.fill", "java.lang.System.arraycopy", "java.lang.Math.min", "java.lang.Math.max");
    private static final Set<String> TYPES = Set.of(
        "void", "int", "long", "boolean", "int[]", "boolean[]");
    /** Beside constructors: the calls that make objects, two small ones each. */
    private static final Set<String> MAKERS = Set.of("SheetRefs.moves", "SheetRefs.copies");
    /** Values of cells ask for values of cells; at most 36 stand open, as each cell is asked once. */
    private static final Set<String> RECURSIVE = Set.of("SheetRefs.Values.ask", "SheetRefs.Values.addTerm");
    /** The one divisor that is no constant: Area.cell() looks at it ahead. */
    private static final String TESTED_DIVISOR = "width";

    public static void main(String[] args) throws Exception {
        JavaCompiler compiler = ToolProvider.getSystemJavaCompiler();
        StandardJavaFileManager files = compiler.getStandardFileManager(null, null, null);
        JavacTask task = (JavacTask) compiler.getTask(null, files, null, List.of("-proc:none"), null,
            files.getJavaFileObjects(Path.of(SOURCE)));
        Scan scan = new Scan(Trees.instance(task));
        Iterable<? extends CompilationUnitTree> units = task.parse();
        task.analyze();
        for (CompilationUnitTree unit : units) {
            scan.unit = unit;
            scan.scan(unit, null);
        }
        Due.sentence("LANGUAGE 11: the file has at most some twelve classes");
        holds("classes: " + scan.classes, scan.classes.size() <= 12);
        checkDepths(scan.calls);
        Due.end();
    }

    private static void checkDepths(Map<String, Set<String>> calls) {
        Due.sentence("LANGUAGE 8: recursion has a guard on the depth");
        Set<String> recursive = new TreeSet<>();
        for (String method : calls.keySet()) {
            if (reaches(calls, method, method, new HashSet<>())) {
                recursive.add(method);
            }
        }
        Due.due("methods that come to themselves again", recursive.toString(), new TreeSet<>(RECURSIVE).toString());
        Due.sentence("LANGUAGE 11: calls that are no recursion go at most eight deep");
        for (String method : calls.keySet()) {
            List<String> way = deepest(calls, method, new ArrayList<>());
            holds(way.size() + " deep: " + way, way.size() <= 8);
        }
    }

    private static boolean reaches(Map<String, Set<String>> calls, String from, String to, Set<String> seen) {
        for (String next : calls.getOrDefault(from, Set.of())) {
            if (next.equals(to) || (seen.add(next) && reaches(calls, next, to, seen))) {
                return true;
            }
        }
        return false;
    }

    /** The longest way of calls on which no method stands twice. */
    private static List<String> deepest(Map<String, Set<String>> calls, String method, List<String> before) {
        List<String> way = new ArrayList<>(before);
        way.add(method);
        List<String> longest = way;
        for (String next : calls.getOrDefault(method, Set.of())) {
            if (!way.contains(next)) {
                List<String> other = deepest(calls, next, way);
                longest = other.size() > longest.size() ? other : longest;
            }
        }
        return longest;
    }

    private static void holds(String what, boolean holds) {
        Due.due(what, holds ? "holds" : "does not hold", "holds");
    }

    /** Looks at each part of the tree, and gathers which method calls which. */
    private static final class Scan extends TreePathScanner<Void, Void> {
        private final Trees trees;
        private final Map<String, Set<String>> calls = new LinkedHashMap<>();
        private final Set<String> classes = new TreeSet<>();
        private CompilationUnitTree unit;
        private String method = "";

        Scan(Trees trees) {
            this.trees = trees;
        }

        @Override
        public Void visitClass(ClassTree node, Void nothing) {
            Element element = trees.getElement(getCurrentPath());
            classes.add(element.toString());
            boolean outer = getCurrentPath().getParentPath().getLeaf() == unit;
            Due.sentence("LANGUAGE 2: static nested classes, none local or anonymous");
            boolean member = getCurrentPath().getParentPath().getLeaf() instanceof ClassTree;
            holds(element + " is a member", outer || member);
            holds(element + " is static", outer || element.getModifiers().contains(Modifier.STATIC));
            int fields = 0;
            for (Tree part : node.getMembers()) {
                Due.sentence("LANGUAGE 5: no static initialiser block");
                holds("no bare block in " + element, !(part instanceof BlockTree));
                fields += part instanceof VariableTree v
                    && !v.getModifiers().getFlags().contains(Modifier.STATIC) ? 1 : 0;
            }
            Due.sentence("LANGUAGE 11: a class has some twenty fields beside its constants");
            holds(element + " has " + fields + " fields", fields <= 20);
            return super.visitClass(node, nothing);
        }

        @Override
        public Void visitMethod(MethodTree node, Void nothing) {
            String outside = method;
            method = nameOf(trees.getElement(getCurrentPath()));
            calls.computeIfAbsent(method, m -> new TreeSet<>());
            Due.sentence("LANGUAGE 11: at most seven parameters, some sixty lines");
            holds(method + " has few parameters", node.getParameters().size() <= 7);
            holds(method + " is short", linesOf(node) <= 60);
            if (node.getReturnType() != null) {
                checkType(node.getReturnType());
            }
            super.visitMethod(node, nothing);
            method = outside;
            return null;
        }

        private long linesOf(Tree node) {
            long start = trees.getSourcePositions().getStartPosition(unit, node);
            long end = trees.getSourcePositions().getEndPosition(unit, node);
            return unit.getLineMap().getLineNumber(end) - unit.getLineMap().getLineNumber(start) + 1;
        }

        @Override
        public Void visitVariable(VariableTree node, Void nothing) {
            checkType(node.getType());
            Element element = trees.getElement(getCurrentPath());
            Set<Modifier> modifiers = element.getModifiers();
            if (element.getKind() == ElementKind.FIELD && modifiers.contains(Modifier.STATIC)) {
                Due.sentence("LANGUAGE 5: static fields are final constants");
                holds(element + " is final", modifiers.contains(Modifier.FINAL));
                holds(element + " is a constant", ((VariableElement) element).getConstantValue() != null);
            }
            return super.visitVariable(node, nothing);
        }

        private void checkType(Tree type) {
            Due.sentence("LANGUAGE 3: types");
            Element named = trees.getElement(trees.getPath(unit, type));
            boolean own = named != null && named.toString().startsWith("SheetRefs.");
            holds("type " + type, own || TYPES.contains(type.toString()));
        }

        @Override
        public Void visitMethodInvocation(MethodInvocationTree node, Void nothing) {
            Element called = trees.getElement(getCurrentPath());
            String name = nameOf(called);
            if (name.startsWith("SheetRefs")) {
                calls.get(method).add(name);
            } else if (called.getKind() != ElementKind.CONSTRUCTOR) {
                Due.sentence("LANGUAGE 4: the library, only what stands here");
                holds(name + " in " + method, LIBRARY.contains(name));
            }
            return super.visitMethodInvocation(node, nothing);
        }

        @Override
        public Void visitNewClass(NewClassTree node, Void nothing) {
            checkMaker(node);
            Due.sentence("LANGUAGE 4: the library, only what stands here");
            String made = nameOf(trees.getElement(getCurrentPath()));
            holds("new " + made, made.startsWith("SheetRefs"));
            calls.computeIfAbsent(method, m -> new TreeSet<>()).add(made);
            return super.visitNewClass(node, nothing);
        }

        @Override
        public Void visitNewArray(NewArrayTree node, Void nothing) {
            checkMaker(node);
            Due.sentence("LANGUAGE 7: no call may ever throw");
            for (ExpressionTree length : node.getDimensions()) {
                holds("a constant length: " + length, isConstant(length));
            }
            return super.visitNewArray(node, nothing);
        }

        /** A field's own value is made where no method stands: by the constructor. */
        private void checkMaker(Tree node) {
            Due.sentence("LANGUAGE 12: what a run makes is counted");
            holds(node + " in " + method,
                method.isEmpty() || method.endsWith(".<init>") || MAKERS.contains(method));
        }

        @Override
        public Void visitBinary(BinaryTree node, Void nothing) {
            if (node.getKind() == Tree.Kind.DIVIDE || node.getKind() == Tree.Kind.REMAINDER) {
                checkDivisor(node.getRightOperand());
            }
            return super.visitBinary(node, nothing);
        }

        @Override
        public Void visitCompoundAssignment(CompoundAssignmentTree node, Void nothing) {
            Tree.Kind kind = node.getKind();
            if (kind == Tree.Kind.DIVIDE_ASSIGNMENT || kind == Tree.Kind.REMAINDER_ASSIGNMENT) {
                checkDivisor(node.getExpression());
            }
            return super.visitCompoundAssignment(node, nothing);
        }

        private void checkDivisor(ExpressionTree divisor) {
            Due.sentence("LANGUAGE 7: a divisor is looked at before it divides");
            boolean tested = method.equals("SheetRefs.Area.cell") && divisor.toString().equals(TESTED_DIVISOR);
            holds(divisor + " in " + method, tested || isConstant(divisor) && !divisor.toString().equals("0"));
        }

        private boolean isConstant(ExpressionTree e) {
            if (e instanceof BinaryTree b) {
                return isConstant(b.getLeftOperand()) && isConstant(b.getRightOperand());
            }
            if (e instanceof IdentifierTree || e instanceof MemberSelectTree) {
                Element element = trees.getElement(trees.getPath(unit, e));
                return element instanceof VariableElement v && v.getConstantValue() != null;
            }
            return e.getKind() == Tree.Kind.INT_LITERAL;
        }

        @Override
        public Void visitThrow(ThrowTree node, Void nothing) {
            return ruledOut(node);
        }

        @Override
        public Void visitTry(TryTree node, Void nothing) {
            return ruledOut(node);
        }

        @Override
        public Void visitSynchronized(SynchronizedTree node, Void nothing) {
            return ruledOut(node);
        }

        @Override
        public Void visitAssert(AssertTree node, Void nothing) {
            return ruledOut(node);
        }

        @Override
        public Void visitLambdaExpression(LambdaExpressionTree node, Void nothing) {
            return ruledOut(node);
        }

        @Override
        public Void visitMemberReference(MemberReferenceTree node, Void nothing) {
            return ruledOut(node);
        }

        /** The class has no need of casts, so none has to be shown to be safe. */
        @Override
        public Void visitTypeCast(TypeCastTree node, Void nothing) {
            return ruledOut(node);
        }

        private Void ruledOut(Tree node) {
            Due.sentence("LANGUAGE 2 and 6: what is ruled out");
            holds("no " + node.getKind() + " in " + method, false);
            return null;
        }

        private static String nameOf(Element method) {
            String name = method.getSimpleName().toString();
            return method.getEnclosingElement() + "." + name;
        }
    }
}
