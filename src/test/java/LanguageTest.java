import com.sun.source.tree.AssertTree;
import com.sun.source.tree.ClassTree;
import com.sun.source.tree.CompilationUnitTree;
import com.sun.source.tree.ImportTree;
import com.sun.source.tree.LambdaExpressionTree;
import com.sun.source.tree.LineMap;
import com.sun.source.tree.MemberReferenceTree;
import com.sun.source.tree.MethodInvocationTree;
import com.sun.source.tree.MethodTree;
import com.sun.source.tree.NewArrayTree;
import com.sun.source.tree.NewClassTree;
import com.sun.source.tree.SynchronizedTree;
import com.sun.source.tree.ThrowTree;
import com.sun.source.tree.Tree;
import com.sun.source.tree.TryTree;
import com.sun.source.tree.TypeCastTree;
import com.sun.source.tree.VariableTree;
import com.sun.source.util.JavacTask;
import com.sun.source.util.TreePathScanner;
import com.sun.source.util.Trees;
import java.io.IOException;
import java.nio.file.Path;
import java.util.HashMap;
import java.util.HashSet;
import java.util.List;
import java.util.Map;
import java.util.Set;
import javax.lang.model.element.Element;
import javax.lang.model.element.ElementKind;
import javax.lang.model.element.ExecutableElement;
import javax.lang.model.element.TypeElement;
import javax.lang.model.type.ArrayType;
import javax.lang.model.type.TypeMirror;
import javax.tools.JavaCompiler;
import javax.tools.StandardJavaFileManager;
import javax.tools.ToolProvider;

/** How the file is written (LANGUAGE.md): what the compiler's own reading of it can tell. */
final class LanguageTest {
    /** What of the library the class uses; rule 4 would let more in, and a new name is looked up there before it comes here. */
    private static final Set<String> LIBRARY = Set.of(
            "java.util.Arrays.fill", "java.lang.Math.max", "java.lang.Math.min", "java.lang.Integer.bitCount");
    private static final Set<String> IMPORTS = Set.of("java.util.Arrays", "java.util.ArrayList", "java.util.List");
    private static final int MOST_LINES = 60;
    private static final int MOST_PARAMETERS = 7;
    private static final int MOST_DEPTH = 8;
    private static final int MOST_CLASSES = 12;

    private static final Checks checks = new Checks("LanguageTest");

    public static void main(String[] args) throws IOException {
        JavaCompiler compiler = ToolProvider.getSystemJavaCompiler();
        try (StandardJavaFileManager files = compiler.getStandardFileManager(null, null, null)) {
            JavacTask task = (JavacTask) compiler.getTask(null, files, null, List.of("-proc:none"), null,
                    files.getJavaFileObjects(Path.of("src/main/java/GaleBeach.java")));
            CompilationUnitTree unit = task.parse().iterator().next();
            task.analyze();
            Reader reader = new Reader(unit, Trees.instance(task));
            reader.scan(unit, null);
            reader.end();
        }
        checks.end();
    }

    /** Looks at each piece of the file where it stands. */
    private static final class Reader extends TreePathScanner<Void, Void> {
        private final CompilationUnitTree unit;
        private final Trees trees;
        private final Map<Element, Set<Element>> calls = new HashMap<>();
        private Element method = null;
        private int classes = 0;

        Reader(CompilationUnitTree unit, Trees trees) {
            this.unit = unit;
            this.trees = trees;
        }

        void end() {
            checks.holds("rule 11: " + classes + " classes", classes <= MOST_CLASSES);
            for (Element one : calls.keySet()) {
                int depth = depthFrom(one, new HashSet<>());
                checks.holds("rules 8, 11: calls from " + one + " go " + depth + " deep", depth <= MOST_DEPTH);
            }
        }

        /** How many calls stand open at most, this one too; far too many where one calls itself again. */
        private int depthFrom(Element one, Set<Element> open) {
            if (!open.add(one)) {
                return 1000;
            }
            int deepest = 0;
            for (Element next : calls.getOrDefault(one, Set.of())) {
                deepest = Math.max(deepest, depthFrom(next, open));
            }
            open.remove(one);
            return deepest + 1;
        }

        private String where(Tree tree) {
            LineMap lines = unit.getLineMap();
            return "line " + lines.getLineNumber(start(tree)) + ": ";
        }

        private long start(Tree tree) {
            return trees.getSourcePositions().getStartPosition(unit, tree);
        }

        private void refuse(String rule, Tree tree) {
            checks.holds(where(tree) + rule, false);
        }

        @Override
        public Void visitImport(ImportTree tree, Void nothing) {
            String name = tree.getQualifiedIdentifier().toString();
            checks.holds(where(tree) + "rule 4: import " + name, IMPORTS.contains(name) && !tree.isStatic());
            return null;
        }

        @Override
        public Void visitClass(ClassTree tree, Void nothing) {
            classes++;
            for (Tree member : tree.getMembers()) {
                checks.holds(where(member) + "rules 2, 5: no block of its own", member.getKind() != Tree.Kind.BLOCK);
            }
            return super.visitClass(tree, nothing);
        }

        @Override
        public Void visitMethod(MethodTree tree, Void nothing) {
            LineMap lines = unit.getLineMap();
            long from = start(tree);
            // a constructor that the compiler put in has no end of its own
            long to = Math.max(from, trees.getSourcePositions().getEndPosition(unit, tree));
            long many = from < 0 ? 0 : lines.getLineNumber(to) - lines.getLineNumber(from) + 1;
            checks.holds("rule 11: " + tree.getName() + " has " + many + " lines", many <= MOST_LINES);
            checks.holds("rule 11: parameters of " + tree.getName(), tree.getParameters().size() <= MOST_PARAMETERS);
            checks.holds("rule 6: " + tree.getName() + " tells no throws", tree.getThrows().isEmpty());
            Element outer = method;
            method = trees.getElement(getCurrentPath());
            calls.computeIfAbsent(method, m -> new HashSet<>());
            super.visitMethod(tree, nothing);
            method = outer;
            return null;
        }

        @Override
        public Void visitMethodInvocation(MethodInvocationTree tree, Void nothing) {
            Element called = trees.getElement(getCurrentPath());
            boolean isOwn = called instanceof ExecutableElement && isOwn(called);
            // the call of Object's constructor is the compiler's
            if (!isOwn && called.getKind() != ElementKind.CONSTRUCTOR) {
                String name = ((TypeElement) called.getEnclosingElement()).getQualifiedName() + "." + called.getSimpleName();
                checks.holds(where(tree) + "rule 4: " + name, LIBRARY.contains(name));
            }
            if (isOwn && method != null) {
                calls.get(method).add(called);
            }
            return super.visitMethodInvocation(tree, nothing);
        }

        private static boolean isOwn(Element element) {
            Element outermost = element;
            while (outermost.getEnclosingElement().getKind() != ElementKind.PACKAGE) {
                outermost = outermost.getEnclosingElement();
            }
            return outermost.getSimpleName().contentEquals("GaleBeach");
        }

        @Override
        public Void visitVariable(VariableTree tree, Void nothing) {
            TypeMirror type = trees.getElement(getCurrentPath()).asType();
            int dimensions = 0;
            while (type instanceof ArrayType row) {
                type = row.getComponentType();
                dimensions++;
            }
            boolean isNumber = type.getKind().isPrimitive();
            checks.holds(where(tree) + "rule 3: " + tree.getName() + " has type " + type, dimensions <= (isNumber ? 2 : 1)
                    && (isNumber || type.toString().startsWith("GaleBeach.")));
            return super.visitVariable(tree, nothing);
        }

        @Override
        public Void visitNewClass(NewClassTree tree, Void nothing) {
            checkMade(tree);
            return super.visitNewClass(tree, nothing);
        }

        @Override
        public Void visitNewArray(NewArrayTree tree, Void nothing) {
            checkMade(tree);
            return super.visitNewArray(tree, nothing);
        }

        /** All that is made is made with the object itself, so that 512 calls make nothing more. */
        private void checkMade(Tree tree) {
            checks.holds(where(tree) + "rule 12: no call makes an object",
                    method == null || method.getKind() == ElementKind.CONSTRUCTOR);
        }

        @Override
        public Void visitTypeCast(TypeCastTree tree, Void nothing) {
            checks.holds(where(tree) + "rule 6: a cast of a number", tree.getType().getKind() == Tree.Kind.PRIMITIVE_TYPE);
            return super.visitTypeCast(tree, nothing);
        }

        @Override
        public Void visitThrow(ThrowTree tree, Void nothing) {
            refuse("rule 6: the document names no exception", tree);
            return super.visitThrow(tree, nothing);
        }

        @Override
        public Void visitTry(TryTree tree, Void nothing) {
            refuse("rule 6: nothing throws, so nothing is caught", tree);
            return super.visitTry(tree, nothing);
        }

        @Override
        public Void visitLambdaExpression(LambdaExpressionTree tree, Void nothing) {
            refuse("rule 2: a lambda", tree);
            return super.visitLambdaExpression(tree, nothing);
        }

        @Override
        public Void visitMemberReference(MemberReferenceTree tree, Void nothing) {
            refuse("rule 2: a method reference", tree);
            return super.visitMemberReference(tree, nothing);
        }

        @Override
        public Void visitSynchronized(SynchronizedTree tree, Void nothing) {
            refuse("rule 6: synchronized", tree);
            return super.visitSynchronized(tree, nothing);
        }

        @Override
        public Void visitAssert(AssertTree tree, Void nothing) {
            refuse("rule 6: assert", tree);
            return super.visitAssert(tree, nothing);
        }
    }
}
