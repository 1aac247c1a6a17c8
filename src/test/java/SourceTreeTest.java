import com.sun.source.tree.AssertTree;
import com.sun.source.tree.BinaryTree;
import com.sun.source.tree.BlockTree;
import com.sun.source.tree.ClassTree;
import com.sun.source.tree.CompilationUnitTree;
import com.sun.source.tree.CompoundAssignmentTree;
import com.sun.source.tree.LambdaExpressionTree;
import com.sun.source.tree.MemberReferenceTree;
import com.sun.source.tree.MethodInvocationTree;
import com.sun.source.tree.MethodTree;
import com.sun.source.tree.NewArrayTree;
import com.sun.source.tree.NewClassTree;
import com.sun.source.tree.SynchronizedTree;
import com.sun.source.tree.ThrowTree;
import com.sun.source.tree.Tree;
import com.sun.source.tree.TryTree;
import com.sun.source.tree.VariableTree;
import com.sun.source.util.JavacTask;
import com.sun.source.util.TreePath;
import com.sun.source.util.TreePathScanner;
import com.sun.source.util.Trees;
import java.io.File;
import java.io.IOException;
import java.util.ArrayList;
import java.util.HashMap;
import java.util.LinkedHashSet;
import java.util.List;
import java.util.Map;
import java.util.Set;
import javax.lang.model.element.Element;
import javax.lang.model.element.ExecutableElement;
import javax.lang.model.element.Modifier;
import javax.lang.model.element.TypeElement;
import javax.lang.model.type.TypeKind;
import javax.lang.model.type.TypeMirror;
import javax.lang.model.util.Elements;
import javax.tools.JavaCompiler;
import javax.tools.StandardJavaFileManager;
import javax.tools.ToolProvider;

/**
 * The rules of LANGUAGE.md that need the compiler's own reading of the source: which method a call means, how deep calls
 * go, where objects are made, what the library is used for.
 */
public final class SourceTreeTest {
    private static final Checks CHECKS = new Checks();
    private static final String SOURCE = "src/main/java/PaidInDays.java";
    private static final int DEEPEST = 8;
    private static final Set<String> LIBRARY = Set.of(
        "java.lang.Math.max(int,int)", "java.lang.Math.min(int,int)", "java.lang.Integer.bitCount(int)",
        "java.lang.Integer.numberOfTrailingZeros(int)", "java.lang.Integer.numberOfLeadingZeros(int)",
        "java.lang.String.length()", "java.lang.String.charAt(int)", "java.lang.String.isEmpty()",
        "java.lang.String.indexOf(int)",
        "java.lang.System.arraycopy(java.lang.Object,int,java.lang.Object,int,int)");

    private final Trees trees;
    private final Elements elements;
    private final CompilationUnitTree unit;
    private final Map<ExecutableElement, Set<ExecutableElement>> calls = new HashMap<>();

    private SourceTreeTest(JavacTask task, CompilationUnitTree unit) {
        this.trees = Trees.instance(task);
        this.elements = task.getElements();
        this.unit = unit;
    }

    public static void main(String[] args) throws IOException {
        JavaCompiler compiler = ToolProvider.getSystemJavaCompiler();
        try (StandardJavaFileManager files = compiler.getStandardFileManager(null, null, null)) {
            JavacTask task = (JavacTask) compiler.getTask(null, files, null, List.of("-proc:none"), null,
                files.getJavaFileObjects(new File(SOURCE)));
            CompilationUnitTree unit = task.parse().iterator().next();
            task.analyze();
            new SourceTreeTest(task, unit).look();
        }
        CHECKS.end();
    }

    private void look() {
        CHECKS.due("one class in the file", unit.getTypeDecls().size(), 1);
        CHECKS.holds("no import, no package", unit.getImports().isEmpty() && unit.getPackageName() == null);
        new Look().scan(unit, null);
        CHECKS.holds("methods were found", calls.size() > 35);
        for (ExecutableElement method : calls.keySet()) {
            int depth = depth(method, new ArrayList<>());
            CHECKS.holds("no recursion, at most eight deep: " + name(method) + " goes " + depth, depth <= DEEPEST);
        }
    }

    /** How many calls stand open at once, this one counted; one too many as soon as a method comes again. */
    private int depth(ExecutableElement method, List<ExecutableElement> open) {
        if (open.contains(method)) {
            return DEEPEST + 1;
        }
        open.add(method);
        int deepest = 0;
        for (ExecutableElement called : calls.getOrDefault(method, Set.of())) {
            deepest = Math.max(deepest, depth(called, open));
        }
        open.remove(open.size() - 1);
        return deepest + 1;
    }

    private static String name(ExecutableElement method) {
        return ((TypeElement) method.getEnclosingElement()).getQualifiedName() + "." + method;
    }

    private static boolean isOwn(Element element) {
        return name(element).equals("PaidInDays") || name(element).startsWith("PaidInDays.");
    }

    private static String name(Element type) {
        return type instanceof TypeElement named ? named.getQualifiedName().toString() : "";
    }

    /** The method itself and all that override it. */
    private List<ExecutableElement> meant(ExecutableElement method) {
        List<ExecutableElement> meant = new ArrayList<>(List.of(method));
        for (ExecutableElement other : calls.keySet()) {
            if (elements.overrides(other, method, (TypeElement) other.getEnclosingElement())) {
                meant.add(other);
            }
        }
        return meant;
    }

    private final class Look extends TreePathScanner<Void, Void> {
        private ExecutableElement inside = null;

        private void never(String what, Tree tree) {
            CHECKS.holds("no " + what + ": " + tree, false);
        }

        private TypeMirror typeOf(Tree tree) {
            return trees.getTypeMirror(new TreePath(getCurrentPath(), tree));
        }

        private boolean isText(Tree tree) {
            TypeMirror type = typeOf(tree);
            return type != null && type.toString().equals("java.lang.String");
        }

        public Void visitCompilationUnit(CompilationUnitTree tree, Void none) {
            // All methods first, so that a call finds those that override what it names.
            new MethodsFirst().scan(tree, null);
            return super.visitCompilationUnit(tree, none);
        }

        public Void visitMethod(MethodTree tree, Void none) {
            ExecutableElement before = inside;
            inside = (ExecutableElement) trees.getElement(getCurrentPath());
            super.visitMethod(tree, none);
            inside = before;
            return null;
        }

        public Void visitClass(ClassTree tree, Void none) {
            Element type = trees.getElement(getCurrentPath());
            boolean outermost = name(type).equals("PaidInDays");
            boolean member = getCurrentPath().getParentPath().getLeaf() instanceof ClassTree;
            CHECKS.holds("inside and static: " + type, outermost || member && type.getModifiers().contains(Modifier.STATIC));
            for (Tree part : tree.getMembers()) {
                CHECKS.holds("no initialiser block in " + type, !(part instanceof BlockTree));
            }
            return super.visitClass(tree, none);
        }

        public Void visitVariable(VariableTree tree, Void none) {
            Element variable = trees.getElement(getCurrentPath());
            if (variable.getModifiers().contains(Modifier.STATIC)) {
                boolean plain = variable.asType().getKind().isPrimitive() || variable.asType().toString().equals("java.lang.String");
                CHECKS.holds("a static constant: " + variable, plain && variable.getModifiers().contains(Modifier.FINAL));
            }
            return super.visitVariable(tree, none);
        }

        public Void visitMethodInvocation(MethodInvocationTree tree, Void none) {
            ExecutableElement called = (ExecutableElement) trees.getElement(getCurrentPath());
            // Every constructor, written or not, begins with super().
            if (called.getSimpleName().contentEquals("<init>")) {
                return super.visitMethodInvocation(tree, none);
            }
            if (isOwn(called.getEnclosingElement())) {
                boolean bySuper = tree.getMethodSelect().toString().startsWith("super.");
                calls.get(inside).addAll(bySuper ? List.of(called) : meant(called));
            } else {
                CHECKS.holds("of the library: " + name(called), LIBRARY.contains(name(called)));
                calls.get(inside).add(called);
            }
            return super.visitMethodInvocation(tree, none);
        }

        public Void visitNewClass(NewClassTree tree, Void none) {
            CHECKS.holds("made by a constructor: " + tree, inside == null);
            CHECKS.holds("of its own classes, without a body: " + tree,
                tree.getClassBody() == null && isOwn(trees.getElement(getCurrentPath()).getEnclosingElement()));
            return super.visitNewClass(tree, none);
        }

        public Void visitNewArray(NewArrayTree tree, Void none) {
            CHECKS.holds("made by a constructor: " + tree, inside == null);
            CHECKS.holds("of one dimension: " + tree, tree.getDimensions().size() <= 1);
            return super.visitNewArray(tree, none);
        }

        public Void visitBinary(BinaryTree tree, Void none) {
            CHECKS.holds("no texts joined or held side by side: " + tree,
                !isText(tree.getLeftOperand()) && !isText(tree.getRightOperand()));
            if (tree.getKind() == Tree.Kind.DIVIDE || tree.getKind() == Tree.Kind.REMAINDER) {
                TypeKind kind = typeOf(tree.getRightOperand()).getKind();
                CHECKS.holds("whole numbers: " + tree, kind == TypeKind.INT || kind == TypeKind.LONG);
            }
            return super.visitBinary(tree, none);
        }

        public Void visitCompoundAssignment(CompoundAssignmentTree tree, Void none) {
            CHECKS.holds("no texts joined: " + tree, !isText(tree.getVariable()));
            return super.visitCompoundAssignment(tree, none);
        }

        public Void visitLambdaExpression(LambdaExpressionTree tree, Void none) {
            never("lambda", tree);
            return null;
        }

        public Void visitMemberReference(MemberReferenceTree tree, Void none) {
            never("method reference", tree);
            return null;
        }

        public Void visitTry(TryTree tree, Void none) {
            never("try", tree);
            return null;
        }

        public Void visitThrow(ThrowTree tree, Void none) {
            never("throw", tree);
            return null;
        }

        public Void visitSynchronized(SynchronizedTree tree, Void none) {
            never("synchronized", tree);
            return null;
        }

        public Void visitAssert(AssertTree tree, Void none) {
            never("assert", tree);
            return null;
        }
    }

    private final class MethodsFirst extends TreePathScanner<Void, Void> {
        public Void visitMethod(MethodTree tree, Void none) {
            calls.put((ExecutableElement) trees.getElement(getCurrentPath()), new LinkedHashSet<>());
            return null;
        }
    }
}
