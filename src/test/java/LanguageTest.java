import com.sun.source.tree.AssertTree;
import com.sun.source.tree.BinaryTree;
import com.sun.source.tree.ClassTree;
import com.sun.source.tree.CompilationUnitTree;
import com.sun.source.tree.ImportTree;
import com.sun.source.tree.LambdaExpressionTree;
import com.sun.source.tree.LineMap;
import com.sun.source.tree.MemberReferenceTree;
import com.sun.source.tree.MethodInvocationTree;
import com.sun.source.tree.MethodTree;
import com.sun.source.tree.NewClassTree;
import com.sun.source.tree.SynchronizedTree;
import com.sun.source.tree.ThrowTree;
import com.sun.source.tree.Tree;
import com.sun.source.tree.TryTree;
import com.sun.source.tree.VariableTree;
import com.sun.source.util.JavacTask;
import com.sun.source.util.TreePathScanner;
import com.sun.source.util.Trees;
import java.io.File;
import java.io.IOException;
import java.util.HashMap;
import java.util.LinkedHashSet;
import java.util.List;
import java.util.Map;
import java.util.Set;
import java.util.TreeSet;
import javax.lang.model.element.Element;
import javax.lang.model.element.ElementKind;
import javax.lang.model.element.Modifier;
import javax.lang.model.element.TypeElement;
import javax.tools.JavaCompiler;
import javax.tools.StandardJavaFileManager;
import javax.tools.ToolProvider;

/** The rules of LANGUAGE.md that show in the source, which the compiler's own trees are asked for. */
public final class LanguageTest {
    private static final String SOURCE = "src/main/java/MigrantHeap.java";
    private static final int DEEPEST_CALLS = 8;
    private static final int LONGEST_METHOD = 60;
    private static final int MOST_PARAMETERS = 7;
    private static final int MOST_CLASSES = 12;
    private static final int MOST_FIELDS = 20;
    private static final Set<String> LIBRARY = Set.of("java.lang.Math.min", "java.lang.Math.max",
            "java.lang.Math.abs", "java.lang.System.arraycopy", "java.lang.Object.<init>");
    private static final Set<String> EXCEPTIONS = Set.of("java.lang.IllegalStateException",
            "java.lang.IllegalArgumentException", "java.lang.IndexOutOfBoundsException",
            "java.util.NoSuchElementException");

    private LanguageTest() {
    }

    public static void main(String[] args) throws IOException {
        JavaCompiler compiler = ToolProvider.getSystemJavaCompiler();
        try (StandardJavaFileManager files = compiler.getStandardFileManager(null, null, null)) {
            JavacTask task = (JavacTask) compiler.getTask(null, files, null, List.of("-proc:none"), null,
                    files.getJavaFileObjects(new File(SOURCE)));
            CompilationUnitTree unit = task.parse().iterator().next();
            task.analyze();
            Reader reader = new Reader(unit, Trees.instance(task));
            reader.scan(unit, null);
            reader.tellWhole();
        }
        Expect.end();
    }

    /** Goes through the file once, and remembers which method calls which. */
    private static final class Reader extends TreePathScanner<Void, Void> {
        private final CompilationUnitTree unit;
        private final Trees trees;
        private final Map<Element, Set<Element>> calls = new HashMap<>();
        private final Map<Element, Integer> depths = new HashMap<>();
        private final Set<String> inside = new TreeSet<>();
        private Element method;

        Reader(CompilationUnitTree unit, Trees trees) {
            this.unit = unit;
            this.trees = trees;
        }

        void tellWhole() {
            Expect.yes("no package line", unit.getPackageName() == null);
            Expect.yes("at most some twelve classes", inside.size() <= MOST_CLASSES);
            for (Element caller : calls.keySet()) {
                Expect.yes("calls from " + named(caller) + " go " + depthOf(caller) + " deep",
                        depthOf(caller) <= DEEPEST_CALLS);
            }
        }

        /** How many calls stand open at once, a call of the library being one; recursion is left out. */
        private int depthOf(Element caller) {
            if (!depths.containsKey(caller)) {
                depths.put(caller, 0);
                int below = 0;
                for (Element called : calls.getOrDefault(caller, Set.of())) {
                    below = Math.max(below, depthOf(called));
                }
                depths.put(caller, below + 1);
            }
            return depths.get(caller);
        }

        private Element elementHere() {
            return trees.getElement(getCurrentPath());
        }

        private static String named(Element member) {
            Element owner = member.getEnclosingElement();
            String prefix = owner instanceof TypeElement type ? type.getQualifiedName().toString() : "";
            return prefix + "." + member.getSimpleName();
        }

        private boolean isOwn(Element member) {
            return named(member).startsWith("MigrantHeap.");
        }

        @Override
        public Void visitImport(ImportTree tree, Void none) {
            Expect.yes("import of " + tree.getQualifiedIdentifier(),
                    EXCEPTIONS.contains(tree.getQualifiedIdentifier().toString()));
            return null;
        }

        @Override
        public Void visitClass(ClassTree tree, Void none) {
            inside.add(tree.getSimpleName().toString());
            int fields = 0;
            for (Tree member : tree.getMembers()) {
                Expect.no("a block beside the methods of " + tree.getSimpleName(), member.getKind() == Tree.Kind.BLOCK);
                if (member instanceof VariableTree field && !isStatic(field)) {
                    fields++;
                }
            }
            Expect.yes(tree.getSimpleName() + " has some twenty fields at most", fields <= MOST_FIELDS);
            return super.visitClass(tree, none);
        }

        private static boolean isStatic(VariableTree field) {
            return field.getModifiers().getFlags().contains(Modifier.STATIC);
        }

        @Override
        public Void visitVariable(VariableTree tree, Void none) {
            if (isStatic(tree)) {
                boolean constant = tree.getModifiers().getFlags().contains(Modifier.FINAL)
                        && (tree.getType().toString().equals("int") || tree.getType().toString().equals("long"));
                Expect.yes(tree.getName() + " is a constant", constant);
            }
            return super.visitVariable(tree, none);
        }

        @Override
        public Void visitMethod(MethodTree tree, Void none) {
            Element outer = method;
            method = elementHere();
            calls.put(method, new LinkedHashSet<>());
            Expect.yes(named(method) + " has at most seven parameters", tree.getParameters().size() <= MOST_PARAMETERS);
            Expect.yes(named(method) + " is short", linesOf(tree) <= LONGEST_METHOD);
            super.visitMethod(tree, none);
            method = outer;
            return null;
        }

        private long linesOf(MethodTree tree) {
            LineMap lines = unit.getLineMap();
            long from = trees.getSourcePositions().getStartPosition(unit, tree);
            long to = trees.getSourcePositions().getEndPosition(unit, tree);
            return to < 0 ? 0 : lines.getLineNumber(to) - lines.getLineNumber(from) + 1;
        }

        @Override
        public Void visitMethodInvocation(MethodInvocationTree tree, Void none) {
            remember(elementHere());
            return super.visitMethodInvocation(tree, none);
        }

        @Override
        public Void visitNewClass(NewClassTree tree, Void none) {
            Element made = elementHere();
            if (!EXCEPTIONS.contains(made.getEnclosingElement().toString())) {
                remember(made);
            }
            return super.visitNewClass(tree, none);
        }

        private void remember(Element called) {
            if (!isOwn(called)) {
                Expect.yes("the library's " + named(called) + " may be used", LIBRARY.contains(named(called)));
            }
            if (method != null) {
                calls.get(method).add(called);
            }
        }

        @Override
        public Void visitThrow(ThrowTree tree, Void none) {
            boolean plain = tree.getExpression() instanceof NewClassTree made
                    && made.getArguments().stream().allMatch(text -> text.getKind() == Tree.Kind.STRING_LITERAL);
            Expect.yes("what is thrown in " + method + " is new and has a written text", plain);
            Expect.no("a throw in a constructor", method.getKind() == ElementKind.CONSTRUCTOR);
            return super.visitThrow(tree, none);
        }

        @Override
        public Void visitBinary(BinaryTree tree, Void none) {
            boolean divides = tree.getKind() == Tree.Kind.DIVIDE || tree.getKind() == Tree.Kind.REMAINDER;
            boolean known = !divides || Set.of("apply", "isTooFar").contains(method.getSimpleName().toString());
            Expect.yes("a division in " + method + ", where no divisor has been looked at", known);
            return super.visitBinary(tree, none);
        }

        @Override
        public Void visitLambdaExpression(LambdaExpressionTree tree, Void none) {
            Expect.tell("a lambda in " + method);
            return null;
        }

        @Override
        public Void visitMemberReference(MemberReferenceTree tree, Void none) {
            Expect.tell("a method reference in " + method);
            return null;
        }

        @Override
        public Void visitTry(TryTree tree, Void none) {
            Expect.tell("a try in " + method);
            return null;
        }

        @Override
        public Void visitSynchronized(SynchronizedTree tree, Void none) {
            Expect.tell("synchronized in " + method);
            return null;
        }

        @Override
        public Void visitAssert(AssertTree tree, Void none) {
            Expect.tell("an assert in " + method);
            return null;
        }
    }
}
