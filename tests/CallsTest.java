import com.sun.source.tree.BinaryTree;
import com.sun.source.tree.CompilationUnitTree;
import com.sun.source.tree.CompoundAssignmentTree;
import com.sun.source.tree.ExpressionTree;
import com.sun.source.tree.LambdaExpressionTree;
import com.sun.source.tree.LineMap;
import com.sun.source.tree.LiteralTree;
import com.sun.source.tree.MemberReferenceTree;
import com.sun.source.tree.MethodInvocationTree;
import com.sun.source.tree.MethodTree;
import com.sun.source.tree.NewClassTree;
import com.sun.source.tree.ThrowTree;
import com.sun.source.tree.Tree;
import com.sun.source.tree.TypeCastTree;
import com.sun.source.util.JavacTask;
import com.sun.source.util.TreePath;
import com.sun.source.util.TreePathScanner;
import com.sun.source.util.Trees;
import java.io.IOException;
import java.nio.file.Path;
import java.util.HashMap;
import java.util.LinkedHashSet;
import java.util.Map;
import java.util.Set;
import javax.lang.model.element.Element;
import javax.lang.model.element.ExecutableElement;
import javax.lang.model.element.Modifier;
import javax.lang.model.element.VariableElement;
import javax.lang.model.type.TypeKind;
import javax.tools.JavaCompiler;
import javax.tools.StandardJavaFileManager;
import javax.tools.ToolProvider;

/** The rules of LANGUAGE.md about calls, as the compiler sees them: whom each method calls, how deep. */
public final class CallsTest extends Bench {
    private static final int DEEPEST = 8;
    private static final int LONGEST = 60;
    private static final Set<String> LIBRARY = Set.of("java.lang.String.length", "java.lang.String.charAt",
            "java.lang.Long.compare", "java.lang.Math.abs", "java.lang.Math.floorDiv",
            "java.lang.Math.floorMod", "java.lang.Object.<init>");
    private static final Set<String> THROWN = Set.of("IllegalStateException", "IllegalArgumentException",
            "IndexOutOfBoundsException", "ArithmeticException", "UnsupportedOperationException",
            "NoSuchElementException");

    private CallsTest() { }

    /** Walks over the class and notes whom each method calls. */
    private static final class Walk extends TreePathScanner<Void, Void> {
        final Map<ExecutableElement, Set<ExecutableElement>> calls = new HashMap<>();
        private final Trees trees;
        private final CompilationUnitTree unit;
        private ExecutableElement method;

        Walk(Trees trees, CompilationUnitTree unit) {
            this.trees = trees;
            this.unit = unit;
        }

        private Element element(Tree tree) {
            return trees.getElement(TreePath.getPath(unit, tree));
        }

        private TypeKind kind(Tree tree) {
            return trees.getTypeMirror(TreePath.getPath(unit, tree)).getKind();
        }

        private String where(Tree tree) {
            LineMap lines = unit.getLineMap();
            return tree + " in line "
                    + lines.getLineNumber(trees.getSourcePositions().getStartPosition(unit, tree));
        }

        private void note(Element called, Tree tree) {
            if (!(called instanceof ExecutableElement)) {
                due(called, "a method", where(tree));
                return;
            }
            String owner = called.getEnclosingElement().toString();
            if (owner.startsWith("Boxedvalue")) {
                if (method != null) {
                    calls.get(method).add((ExecutableElement) called);
                }
                return;
            }
            due(LIBRARY.contains(owner + "." + called.getSimpleName()), true, where(tree));
        }

        @Override
        public Void visitMethod(MethodTree tree, Void none) {
            method = (ExecutableElement) element(tree);
            calls.put(method, new LinkedHashSet<>());
            LineMap lines = unit.getLineMap();
            long first = lines.getLineNumber(trees.getSourcePositions().getStartPosition(unit, tree));
            long last = lines.getLineNumber(trees.getSourcePositions().getEndPosition(unit, tree));
            due(last - first < LONGEST, true, "the lines of " + method);
            due(tree.getParameters().size() <= 7, true, "the parameters of " + method);
            super.visitMethod(tree, none);
            method = null;
            return null;
        }

        @Override
        public Void visitMethodInvocation(MethodInvocationTree tree, Void none) {
            note(element(tree.getMethodSelect()), tree);
            return super.visitMethodInvocation(tree, none);
        }

        @Override
        public Void visitNewClass(NewClassTree tree, Void none) {
            if (getCurrentPath().getParentPath().getLeaf() instanceof ThrowTree) {
                due(THROWN.contains(tree.getIdentifier().toString()), true, where(tree));
                boolean isWritten = tree.getArguments().size() == 1
                        && tree.getArguments().get(0) instanceof LiteralTree;
                due(isWritten, true, "the text of " + where(tree));
            } else {
                note(element(tree), tree);
            }
            due(tree.getClassBody() == null, true, where(tree));
            return super.visitNewClass(tree, none);
        }

        @Override
        public Void visitLambdaExpression(LambdaExpressionTree tree, Void none) {
            due("a lambda", "none", where(tree));
            return super.visitLambdaExpression(tree, none);
        }

        @Override
        public Void visitMemberReference(MemberReferenceTree tree, Void none) {
            due("a method reference", "none", where(tree));
            return super.visitMemberReference(tree, none);
        }

        @Override
        public Void visitTypeCast(TypeCastTree tree, Void none) {
            due(kind(tree).isPrimitive(), true, "a cast among numbers: " + where(tree));
            return super.visitTypeCast(tree, none);
        }

        @Override
        public Void visitBinary(BinaryTree tree, Void none) {
            due(kind(tree).isPrimitive(), true, where(tree));
            boolean isDivided = tree.getKind() == Tree.Kind.DIVIDE || tree.getKind() == Tree.Kind.REMAINDER;
            if (isDivided && kind(tree) != TypeKind.DOUBLE) {
                divides(tree.getRightOperand(), tree);
            }
            return super.visitBinary(tree, none);
        }

        @Override
        public Void visitCompoundAssignment(CompoundAssignmentTree tree, Void none) {
            due(kind(tree).isPrimitive(), true, where(tree));
            boolean isDivided = tree.getKind() == Tree.Kind.DIVIDE_ASSIGNMENT
                    || tree.getKind() == Tree.Kind.REMAINDER_ASSIGNMENT;
            if (isDivided && kind(tree.getVariable()) != TypeKind.DOUBLE) {
                divides(tree.getExpression(), tree);
            }
            return super.visitCompoundAssignment(tree, none);
        }

        /** A divisor is a constant, a ten out of the table, or one of three that are looked at. */
        private void divides(ExpressionTree divisor, Tree tree) {
            Element element = element(divisor);
            boolean isConstant = divisor instanceof LiteralTree
                    || element instanceof VariableElement known && known.getConstantValue() != null;
            boolean isSeen = Set.of("TENS[i]", "unit", "divisor", "lows", "ten", "cut").contains(divisor + "")
                    || divisor.toString().equals("(ONE / MOST_STEP)");
            due(isConstant || isSeen, true, "the divisor of " + where(tree));
        }
    }

    /** How deep the calls go from a method, itself counted; a circle would be deeper than all. */
    private static int depth(Walk walk, ExecutableElement method, int open, Map<ExecutableElement, Integer> known) {
        if (open > 40) {
            return 1_000;
        }
        Integer before = known.get(method);
        if (before != null) {
            return before;
        }
        int most = 0;
        for (ExecutableElement called : walk.calls.getOrDefault(method, Set.of())) {
            most = Math.max(most, depth(walk, called, open + 1, known));
        }
        known.put(method, most + 1);
        return most + 1;
    }

    public static void main(String[] args) throws IOException {
        about("the calls of the class");
        JavaCompiler compiler = ToolProvider.getSystemJavaCompiler();
        StandardJavaFileManager files = compiler.getStandardFileManager(null, null, null);
        JavacTask task = (JavacTask) compiler.getTask(null, files, null, null, null,
                files.getJavaFileObjects(Path.of("src/main/java/Boxedvalue.java")));
        CompilationUnitTree unit = task.parse().iterator().next();
        task.analyze();
        Walk walk = new Walk(Trees.instance(task), unit);
        walk.scan(unit, null);
        Map<ExecutableElement, Integer> known = new HashMap<>();
        int faces = 0;
        for (ExecutableElement method : walk.calls.keySet()) {
            int deep = depth(walk, method, 0, known);
            if (method.getModifiers().contains(Modifier.PUBLIC)) {
                faces++;
                due(deep <= DEEPEST, true, method + " goes " + deep + " deep");
            }
        }
        due(faces, 43, "how many methods, with the constructor, the face has");
        tell("CallsTest");
    }
}
