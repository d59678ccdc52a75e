import com.sun.source.tree.BinaryTree;
import com.sun.source.tree.ClassTree;
import com.sun.source.tree.CompilationUnitTree;
import com.sun.source.tree.LiteralTree;
import com.sun.source.tree.MethodInvocationTree;
import com.sun.source.tree.MethodTree;
import com.sun.source.tree.NewClassTree;
import com.sun.source.tree.ThrowTree;
import com.sun.source.tree.Tree;
import com.sun.source.util.JavacTask;
import com.sun.source.util.TreePath;
import com.sun.source.util.TreePathScanner;
import com.sun.source.util.Trees;
import java.io.IOException;
import java.nio.file.Path;
import java.util.EnumSet;
import java.util.LinkedHashMap;
import java.util.LinkedHashSet;
import java.util.Map;
import java.util.Set;
import javax.lang.model.element.Element;
import javax.lang.model.element.ElementKind;
import javax.lang.model.element.ExecutableElement;
import javax.lang.model.element.Modifier;
import javax.lang.model.type.TypeKind;
import javax.tools.JavaCompiler;
import javax.tools.StandardJavaFileManager;
import javax.tools.ToolProvider;

/** Those rules of LANGUAGE.md that can be seen by the class's tree of syntax. It runs in the project's folder. */
public final class LanguageTreeTest {
    private static final Path SOURCE = Path.of("src/main/java/BrambleMesh.java");
    private static final Check CHECK = new Check();
    private static final int MOST_DEEP = 8;
    /** Rule 4: what the class takes of the library. */
    private static final Set<String> LIBRARY = Set.of(
        "java.util.ArrayList.<init>", "java.util.ArrayList.add", "java.util.ArrayList.get", "java.util.ArrayList.remove",
        "java.util.ArrayList.size", "java.util.ArrayList.isEmpty", "java.lang.Math.max", "java.lang.Math.min");
    /** Rules 2, 6 and 10: what the class does without. */
    private static final Set<Tree.Kind> NOT_USED = EnumSet.of(
        Tree.Kind.LAMBDA_EXPRESSION, Tree.Kind.MEMBER_REFERENCE, Tree.Kind.TRY, Tree.Kind.SYNCHRONIZED, Tree.Kind.ASSERT,
        Tree.Kind.INSTANCE_OF, Tree.Kind.TYPE_CAST, Tree.Kind.ANNOTATION, Tree.Kind.SWITCH_EXPRESSION,
        Tree.Kind.WHILE_LOOP, Tree.Kind.DO_WHILE_LOOP);

    /** By method, in the order of the text: its own methods and constructors that it calls. */
    private static final Map<ExecutableElement, Set<ExecutableElement>> CALLED = new LinkedHashMap<>();

    private static final class Scanner extends TreePathScanner<Void, Void> {
        private final Trees trees;

        Scanner(Trees trees) {
            this.trees = trees;
        }

        private Element elementAt(TreePath path) {
            return path == null ? null : trees.getElement(path);
        }

        private MethodTree around() {
            TreePath path = getCurrentPath();
            while (path != null && !(path.getLeaf() instanceof MethodTree)) {
                path = path.getParentPath();
            }
            return path == null ? null : (MethodTree) path.getLeaf();
        }

        private void callOf(Element called) {
            boolean isOwn = called.getEnclosingElement().toString().startsWith("BrambleMesh");
            MethodTree caller = around();
            if (isOwn && caller != null) {
                Element callerElement = trees.getElement(trees.getPath(getCurrentPath().getCompilationUnit(), caller));
                CALLED.computeIfAbsent((ExecutableElement) callerElement, key -> new LinkedHashSet<>());
                CALLED.get(callerElement).add((ExecutableElement) called);
            } else if (!isOwn && getCurrentPath().getParentPath().getLeaf().getKind() != Tree.Kind.THROW) {
                String name = called.getEnclosingElement() + "." + called.getSimpleName();
                boolean isSuper = name.equals("java.lang.Object.<init>");
                CHECK.due("rule 4: " + name, isSuper || LIBRARY.contains(name.replaceAll("<[A-Z]>", "")), true);
            }
        }

        @Override
        public Void scan(Tree tree, Void nothing) {
            if (tree != null) {
                CHECK.due("rules 2, 6, 9, 10: no " + tree.getKind(), NOT_USED.contains(tree.getKind()), false);
            }
            return super.scan(tree, nothing);
        }

        @Override
        public Void visitMethod(MethodTree tree, Void nothing) {
            CALLED.computeIfAbsent((ExecutableElement) elementAt(getCurrentPath()), key -> new LinkedHashSet<>());
            return super.visitMethod(tree, nothing);
        }

        @Override
        public Void visitClass(ClassTree tree, Void nothing) {
            boolean isInClass = getCurrentPath().getParentPath().getLeaf() instanceof ClassTree;
            boolean isOuter = getCurrentPath().getParentPath().getLeaf() instanceof CompilationUnitTree;
            CHECK.due("rule 2: " + tree.getSimpleName() + " is no local class", isInClass || isOuter, true);
            return super.visitClass(tree, nothing);
        }

        @Override
        public Void visitMethodInvocation(MethodInvocationTree tree, Void nothing) {
            callOf(elementAt(getCurrentPath()));
            return super.visitMethodInvocation(tree, nothing);
        }

        @Override
        public Void visitNewClass(NewClassTree tree, Void nothing) {
            CHECK.due("rule 2: " + tree + " is not anonymous", tree.getClassBody() == null, true);
            callOf(elementAt(getCurrentPath()));
            return super.visitNewClass(tree, nothing);
        }

        @Override
        public Void visitThrow(ThrowTree tree, Void nothing) {
            MethodTree method = around();
            CHECK.due("rule 6: " + tree + " is in no constructor", method != null && method.getReturnType() != null, true);
            boolean isNew = tree.getExpression() instanceof NewClassTree;
            CHECK.due("rule 6: " + tree + " throws a new one", isNew, true);
            if (isNew) {
                for (Tree argument : ((NewClassTree) tree.getExpression()).getArguments()) {
                    CHECK.due("rule 6: " + tree + " has a written text", argument instanceof LiteralTree, true);
                }
            }
            return super.visitThrow(tree, nothing);
        }

        @Override
        public Void visitBinary(BinaryTree tree, Void nothing) {
            if (tree.getKind() == Tree.Kind.PLUS) {
                TypeKind kind = trees.getTypeMirror(getCurrentPath()).getKind();
                CHECK.due("rule 10: " + tree + " joins no texts", kind.isPrimitive(), true);
            }
            boolean isDivision = tree.getKind() == Tree.Kind.DIVIDE || tree.getKind() == Tree.Kind.REMAINDER;
            if (isDivision) {
                boolean isTested = isTested(tree.getRightOperand(), getCurrentPath());
                CHECK.due("rule 7: the divisor of " + tree, isTested, true);
            }
            return super.visitBinary(tree, nothing);
        }

        /** A divisor is a number, a constant, or stands in a test against 0 in the same method. */
        private boolean isTested(Tree divisor, TreePath path) {
            Element element = trees.getElement(new TreePath(path, divisor));
            boolean isConstant = element != null && element.getKind() == ElementKind.FIELD
                    && element.getModifiers().contains(Modifier.STATIC);
            return divisor instanceof LiteralTree || isConstant
                    || String.valueOf(around()).contains(divisor + " > 0");
        }
    }

    private static boolean reaches(ExecutableElement from, ExecutableElement to, Set<ExecutableElement> seen) {
        for (ExecutableElement called : CALLED.getOrDefault(from, Set.of())) {
            if (called.equals(to) || seen.add(called) && reaches(called, to, seen)) {
                return true;
            }
        }
        return false;
    }

    /** How deep calls go from a method, each method on the way counted once, so that recursion is left out. */
    private static int depthFrom(ExecutableElement method, Set<ExecutableElement> onTheWay) {
        int deepest = 0;
        onTheWay.add(method);
        for (ExecutableElement called : CALLED.getOrDefault(method, Set.of())) {
            if (!onTheWay.contains(called)) {
                deepest = Math.max(deepest, depthFrom(called, onTheWay));
            }
        }
        onTheWay.remove(method);
        return deepest + 1;
    }

    private static void calls() {
        for (ExecutableElement method : CALLED.keySet()) {
            int depth = depthFrom(method, new LinkedHashSet<>());
            CHECK.due("rule 11: " + method + " goes " + depth + " deep", depth <= MOST_DEEP, true);
            if (reaches(method, method, new LinkedHashSet<>())) {
                CHECK.due("rule 8: " + method + " is private", method.getModifiers().contains(Modifier.PRIVATE), true);
                boolean carriesDepth = method.getParameters().toString().contains("depth");
                CHECK.due("rule 8: " + method + " carries its depth", carriesDepth, true);
            }
        }
    }

    public static void main(String[] args) throws IOException {
        JavaCompiler compiler = ToolProvider.getSystemJavaCompiler();
        try (StandardJavaFileManager files = compiler.getStandardFileManager(null, null, null)) {
            JavacTask task = (JavacTask) compiler.getTask(null, files, null, null, null, files.getJavaFileObjects(SOURCE));
            Iterable<? extends CompilationUnitTree> units = task.parse();
            task.analyze();
            for (CompilationUnitTree unit : units) {
                new Scanner(Trees.instance(task)).scan(unit, null);
            }
        }
        calls();
        CHECK.due("methods were found", CALLED.size() > 26, true);
        CHECK.end();
    }
}
