import com.sun.source.tree.ArrayAccessTree;
import com.sun.source.tree.AssertTree;
import com.sun.source.tree.BinaryTree;
import com.sun.source.tree.BlockTree;
import com.sun.source.tree.ClassTree;
import com.sun.source.tree.CompilationUnitTree;
import com.sun.source.tree.CompoundAssignmentTree;
import com.sun.source.tree.ExpressionTree;
import com.sun.source.tree.IdentifierTree;
import com.sun.source.tree.ImportTree;
import com.sun.source.tree.LambdaExpressionTree;
import com.sun.source.tree.LiteralTree;
import com.sun.source.tree.MemberReferenceTree;
import com.sun.source.tree.MethodInvocationTree;
import com.sun.source.tree.MethodTree;
import com.sun.source.tree.NewArrayTree;
import com.sun.source.tree.NewClassTree;
import com.sun.source.tree.PrimitiveTypeTree;
import com.sun.source.tree.SynchronizedTree;
import com.sun.source.tree.ThrowTree;
import com.sun.source.tree.Tree;
import com.sun.source.tree.TryTree;
import com.sun.source.tree.TypeCastTree;
import com.sun.source.tree.VariableTree;
import com.sun.source.util.JavacTask;
import com.sun.source.util.TreePath;
import com.sun.source.util.TreePathScanner;
import com.sun.source.util.Trees;
import java.io.IOException;
import java.nio.file.Path;
import java.util.ArrayList;
import java.util.HashMap;
import java.util.List;
import java.util.Map;
import java.util.Set;
import java.util.TreeSet;
import javax.lang.model.element.Element;
import javax.lang.model.element.Modifier;
import javax.tools.JavaCompiler;
import javax.tools.StandardJavaFileManager;
import javax.tools.ToolProvider;

/**
 * The class keeps to LANGUAGE.md, as far as its text can show it; what the class does without (try, throw, lists,
 * texts, objects made by a call) is not looked into, but refused: who begins to use it looks at its rule first.
 */
public final class LanguageTest {
    private static final Path CLASS = Path.of("src", "main", "java", "SaltIceCream.java");
    private static final Set<String> LIBRARY = Set.of("Math.max", "Math.min", "Array.clone");
    private static final int PARAMETERS = 7, LINES = 60, CLASSES = 12, FIELDS = 20;
    /** Rule 11 allows eight; one is left for the call of the face itself or of the library, if these count. */
    private static final int DEPTH = 7;
    /** Methods that look at an index, or at a divisor that is no written number, before they use it. */
    private static final Set<String> INDEXING = Set.of("SaltIceCream.at", "SaltIceCream.put", "SaltIceCream.copyRow",
        "Flakes.clear", "Crew.begin");
    private static final Set<String> DIVIDING = Set.of("SaltIceCream.quotient", "SaltIceCream.commonDivisor",
        "SaltIceCream.iceAt", "SaltIceCream.growOn", "Flakes.grow");
    private static final Check CHECK = new Check("LanguageTest");

    private static final class Reader extends TreePathScanner<Void, Void> {
        private final Trees trees;
        private final CompilationUnitTree unit;
        private final Map<String, Set<String>> calls = new HashMap<>();
        private String inClass = "";
        private String inMethod = "";
        private int classes = 0;

        Reader(Trees trees, CompilationUnitTree unit) {
            this.trees = trees;
            this.unit = unit;
        }

        private long line(long position) {
            return unit.getLineMap().getLineNumber(position);
        }

        private void rule(int number, String what, boolean kept) {
            TreePath path = getCurrentPath();
            long at = path == null ? 0 : line(trees.getSourcePositions().getStartPosition(unit, path.getLeaf()));
            CHECK.holds("rule " + number + ", line " + at + ": " + what, kept);
        }

        private String here() {
            return inClass + "." + inMethod;
        }

        @Override
        public Void visitImport(ImportTree tree, Void none) {
            rule(4, "the class imports nothing, but " + tree, false);
            return super.visitImport(tree, none);
        }

        @Override
        public Void visitClass(ClassTree tree, Void none) {
            classes++;
            String outer = inClass;
            inClass = tree.getSimpleName().toString();
            Set<Modifier> modifiers = tree.getModifiers().getFlags();
            rule(1, inClass + " is the face, or private and static", outer.isEmpty() ? modifiers.contains(Modifier.PUBLIC)
                && modifiers.contains(Modifier.FINAL) : modifiers.contains(Modifier.PRIVATE)
                && modifiers.contains(Modifier.STATIC));
            int fields = 0;
            for (Tree member : tree.getMembers()) {
                boolean constant = member instanceof VariableTree field && isStatic(field);
                fields += member instanceof VariableTree && !constant ? 1 : 0;
                rule(5, inClass + " has no initialiser block", !(member instanceof BlockTree));
            }
            rule(11, inClass + " has " + fields + " fields", fields <= FIELDS);
            super.visitClass(tree, none);
            inClass = outer;
            return null;
        }

        private static boolean isStatic(VariableTree tree) {
            return tree.getModifiers().getFlags().contains(Modifier.STATIC);
        }

        @Override
        public Void visitVariable(VariableTree tree, Void none) {
            if (isStatic(tree)) {
                rule(5, tree.getName() + " is final", tree.getModifiers().getFlags().contains(Modifier.FINAL));
                rule(5, tree.getName() + " is int, long or int[]", Set.of("int", "long", "int[]")
                    .contains(tree.getType().toString()));
            }
            return super.visitVariable(tree, none);
        }

        @Override
        public Void visitMethod(MethodTree tree, Void none) {
            inMethod = tree.getName().toString();
            calls.computeIfAbsent(here(), name -> new TreeSet<>());
            long first = line(trees.getSourcePositions().getStartPosition(unit, tree));
            long last = line(trees.getSourcePositions().getEndPosition(unit, tree));
            rule(11, here() + " takes " + tree.getParameters().size(), tree.getParameters().size() <= PARAMETERS);
            rule(11, here() + " has " + (last - first + 1) + " lines", last - first + 1 <= LINES);
            super.visitMethod(tree, none);
            inMethod = "";
            return null;
        }

        @Override
        public Void visitMethodInvocation(MethodInvocationTree tree, Void none) {
            Element method = trees.getElement(getCurrentPath());
            String owner = method.getEnclosingElement().getSimpleName().toString();
            String name = owner + "." + method.getSimpleName();
            boolean own = trees.getPath(method) != null && trees.getPath(method).getCompilationUnit() == unit;
            if (own) {
                calls.computeIfAbsent(here(), caller -> new TreeSet<>()).add(name);
            } else if (!name.equals("Object.<init>")) {
                rule(4, here() + " calls " + name, LIBRARY.contains(name));
            }
            return super.visitMethodInvocation(tree, none);
        }

        private void refused(int number, String what) {
            rule(number, here() + " does without " + what, false);
        }

        @Override
        public Void visitLambdaExpression(LambdaExpressionTree tree, Void none) {
            refused(2, "a lambda");
            return super.visitLambdaExpression(tree, none);
        }

        @Override
        public Void visitMemberReference(MemberReferenceTree tree, Void none) {
            refused(2, "a method reference");
            return super.visitMemberReference(tree, none);
        }

        @Override
        public Void visitTry(TryTree tree, Void none) {
            refused(6, "try");
            return super.visitTry(tree, none);
        }

        @Override
        public Void visitThrow(ThrowTree tree, Void none) {
            refused(6, "throw: no call of the document throws");
            return super.visitThrow(tree, none);
        }

        @Override
        public Void visitSynchronized(SynchronizedTree tree, Void none) {
            refused(6, "synchronized");
            return super.visitSynchronized(tree, none);
        }

        @Override
        public Void visitAssert(AssertTree tree, Void none) {
            refused(6, "assert");
            return super.visitAssert(tree, none);
        }

        @Override
        public Void visitTypeCast(TypeCastTree tree, Void none) {
            rule(7, here() + " casts numbers alone", tree.getType() instanceof PrimitiveTypeTree);
            return super.visitTypeCast(tree, none);
        }

        @Override
        public Void visitArrayAccess(ArrayAccessTree tree, Void none) {
            rule(7, here() + " uses an index", INDEXING.contains(here()));
            return super.visitArrayAccess(tree, none);
        }

        private void divided(Tree.Kind kind, ExpressionTree divisor) {
            boolean divides = kind == Tree.Kind.DIVIDE || kind == Tree.Kind.REMAINDER
                || kind == Tree.Kind.DIVIDE_ASSIGNMENT || kind == Tree.Kind.REMAINDER_ASSIGNMENT;
            boolean written = divisor instanceof LiteralTree number && !number.getValue().equals(0);
            rule(7, here() + " divides by " + divisor, !divides || written || DIVIDING.contains(here()));
        }

        @Override
        public Void visitBinary(BinaryTree tree, Void none) {
            divided(tree.getKind(), tree.getRightOperand());
            return super.visitBinary(tree, none);
        }

        @Override
        public Void visitCompoundAssignment(CompoundAssignmentTree tree, Void none) {
            divided(tree.getKind(), tree.getExpression());
            return super.visitCompoundAssignment(tree, none);
        }

        @Override
        public Void visitNewClass(NewClassTree tree, Void none) {
            rule(12, here() + " makes an object", inMethod.isEmpty() || inMethod.equals("<init>"));
            return super.visitNewClass(tree, none);
        }

        @Override
        public Void visitNewArray(NewArrayTree tree, Void none) {
            rule(12, here() + " makes a row", inMethod.isEmpty() || inMethod.equals("<init>"));
            return super.visitNewArray(tree, none);
        }

        @Override
        public Void visitIdentifier(IdentifierTree tree, Void none) {
            boolean other = Set.of("String", "StringBuilder", "System", "Object").contains(tree.getName().toString());
            rule(3, here() + " uses " + tree, !other);
            return super.visitIdentifier(tree, none);
        }

        @Override
        public Void visitPrimitiveType(PrimitiveTypeTree tree, Void none) {
            rule(3, here() + " uses " + tree, Set.of("int", "long", "boolean", "void").contains(tree.toString()));
            return super.visitPrimitiveType(tree, none);
        }

        /** The longest chain of calls from a method on; a method that is met again on its own chain recurs. */
        private List<String> chain(String method, List<String> ahead) {
            List<String> longest = new ArrayList<>(ahead);
            longest.add(method);
            if (ahead.contains(method)) {
                rule(8, "no method calls itself, but " + longest, false);
                return longest;
            }
            List<String> sofar = List.copyOf(longest);
            for (String called : calls.getOrDefault(method, Set.of())) {
                List<String> through = chain(called, sofar);
                longest = through.size() > longest.size() ? through : longest;
            }
            return longest;
        }

        void end() {
            rule(11, classes + " classes", classes <= CLASSES);
            rule(11, "methods are seen", calls.size() > 50);
            for (String method : new TreeSet<>(calls.keySet())) {
                List<String> chain = chain(method, List.of());
                rule(11, "calls are " + chain.size() + " deep: " + chain, chain.size() <= DEPTH);
            }
        }
    }

    public static void main(String[] args) throws IOException {
        JavaCompiler compiler = ToolProvider.getSystemJavaCompiler();
        try (StandardJavaFileManager files = compiler.getStandardFileManager(null, null, null)) {
            JavacTask task = (JavacTask) compiler.getTask(null, files, null, null, null, files.getJavaFileObjects(CLASS));
            CompilationUnitTree unit = task.parse().iterator().next();
            task.analyze();
            Reader reader = new Reader(Trees.instance(task), unit);
            CHECK.holds("there is no package line", unit.getPackageName() == null);
            CHECK.holds("the file has one class", unit.getTypeDecls().size() == 1);
            reader.scan(unit, null);
            reader.end();
        }
        CHECK.end();
    }
}
