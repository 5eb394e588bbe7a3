import com.sun.source.tree.ArrayAccessTree;
import com.sun.source.tree.AssertTree;
import com.sun.source.tree.BinaryTree;
import com.sun.source.tree.BlockTree;
import com.sun.source.tree.CatchTree;
import com.sun.source.tree.ClassTree;
import com.sun.source.tree.CompilationUnitTree;
import com.sun.source.tree.ImportTree;
import com.sun.source.tree.LambdaExpressionTree;
import com.sun.source.tree.MemberReferenceTree;
import com.sun.source.tree.MethodInvocationTree;
import com.sun.source.tree.MethodTree;
import com.sun.source.tree.NewArrayTree;
import com.sun.source.tree.NewClassTree;
import com.sun.source.tree.SynchronizedTree;
import com.sun.source.tree.Tree;
import com.sun.source.util.JavacTask;
import com.sun.source.util.TreePathScanner;
import com.sun.source.util.TreePath;
import com.sun.source.util.Trees;
import java.io.IOException;
import java.nio.file.Path;
import java.util.HashSet;
import java.util.LinkedHashMap;
import java.util.List;
import java.util.Map;
import java.util.Set;
import java.util.TreeSet;
import javax.lang.model.element.Element;
import javax.lang.model.element.ElementKind;
import javax.tools.JavaCompiler;
import javax.tools.StandardJavaFileManager;
import javax.tools.ToolProvider;

/** What can be seen of the rules of LANGUAGE.md in the text of the program: its library, its forms and its lengths. */
final class LanguageTest {
    private static final Path PROGRAM = Path.of("src", "main", "java", "MountainPost.java");
    /** Of what the rules 4 and 6 allow, all that the program uses: who needs more looks there first. */
    private static final Set<String> LIBRARY = Set.of(
        "Math.max", "Math.min", "Integer.bitCount", "System.arraycopy", "Object.<init>",
        "IllegalArgumentException.<init>", "IllegalStateException.<init>", "IndexOutOfBoundsException.<init>");
    private static final int LONGEST_METHOD = 60;
    private static final int MOST_PARAMETERS = 7;
    private static final int DEEPEST_CALL = 8;

    private final Set<String> forbidden = new TreeSet<>();
    private final Set<String> library = new TreeSet<>();
    private final Set<String> arrayUsers = new TreeSet<>();
    private final Map<Element, Set<Element>> callees = new LinkedHashMap<>();

    private LanguageTest() {
    }

    public static void main(String[] args) throws IOException {
        LanguageTest seen = new LanguageTest();
        seen.read();
        Check.due("forms outside the rules 2, 5, 6, 10 and 11", Set.of(), () -> seen.forbidden);
        seen.library.removeAll(LIBRARY);
        Check.due("library outside the rule 4", Set.of(), () -> seen.library);
        Check.due("where arrays are made and used: rule 7 is held there", "[Row]", () -> seen.arrayUsers);
        Check.due("methods were read", true, () -> seen.callees.size() > 60);
        int deepest = 0;
        for (Element method : seen.callees.keySet()) {
            deepest = Math.max(deepest, seen.depthOf(method, new HashSet<>()));
        }
        int depth = deepest;
        Check.due("calls go at most eight deep, here " + depth, true, () -> depth <= DEEPEST_CALL);
        Check.end();
    }

    private void read() throws IOException {
        JavaCompiler compiler = ToolProvider.getSystemJavaCompiler();
        try (StandardJavaFileManager files = compiler.getStandardFileManager(null, null, null)) {
            JavacTask task = (JavacTask) compiler.getTask(
                null, files, null, List.of("-proc:none"), null, files.getJavaFileObjects(PROGRAM));
            Iterable<? extends CompilationUnitTree> units = task.parse();
            task.analyze();
            for (CompilationUnitTree unit : units) {
                new Reader(Trees.instance(task), unit).scan(unit, null);
            }
        }
    }

    /** How many calls stand open at once below and with this one; a recursion is told as far too many. */
    private int depthOf(Element method, Set<Element> open) {
        if (!open.add(method)) {
            return 1000;
        }
        int below = 0;
        for (Element callee : callees.getOrDefault(method, Set.of())) {
            below = Math.max(below, depthOf(callee, open));
        }
        open.remove(method);
        return below + 1;
    }

    private final class Reader extends TreePathScanner<Void, Void> {
        private final Trees trees;
        private final CompilationUnitTree unit;
        private Element method;

        Reader(Trees trees, CompilationUnitTree unit) {
            this.trees = trees;
            this.unit = unit;
        }

        @Override
        public Void visitMethod(MethodTree tree, Void nothing) {
            Element outside = method;
            method = trees.getElement(getCurrentPath());
            callees.put(method, new HashSet<>());
            long lines = lineAt(trees.getSourcePositions().getEndPosition(unit, tree)) - lineAt(startOf(tree)) + 1;
            if (lines > LONGEST_METHOD || tree.getParameters().size() > MOST_PARAMETERS) {
                forbid("a long method or one with many parameters", tree);
            }
            super.visitMethod(tree, nothing);
            method = outside;
            return null;
        }

        @Override
        public Void visitMethodInvocation(MethodInvocationTree tree, Void nothing) {
            noteCall(trees.getElement(getCurrentPath()));
            return super.visitMethodInvocation(tree, nothing);
        }

        @Override
        public Void visitNewClass(NewClassTree tree, Void nothing) {
            noteCall(trees.getElement(getCurrentPath()));
            return super.visitNewClass(tree, nothing);
        }

        private void noteCall(Element callee) {
            Element type = callee.getEnclosingElement();
            if (type.toString().startsWith("MountainPost")) {
                if (method != null) {
                    callees.get(method).add(callee);
                }
            } else {
                library.add(type.getSimpleName() + "." + callee.getSimpleName());
            }
        }

        @Override
        public Void visitArrayAccess(ArrayAccessTree tree, Void nothing) {
            noteArray();
            return super.visitArrayAccess(tree, nothing);
        }

        @Override
        public Void visitNewArray(NewArrayTree tree, Void nothing) {
            noteArray();
            return super.visitNewArray(tree, nothing);
        }

        private void noteArray() {
            arrayUsers.add(method.getEnclosingElement().getSimpleName().toString());
        }

        @Override
        public Void visitBlock(BlockTree tree, Void nothing) {
            if (tree.isStatic()) {
                forbid("a static initialiser", tree);
            }
            return super.visitBlock(tree, nothing);
        }

        @Override
        public Void visitClass(ClassTree tree, Void nothing) {
            if (method != null) {
                forbid("a class in a method", tree);
            }
            return super.visitClass(tree, nothing);
        }

        @Override
        public Void visitBinary(BinaryTree tree, Void nothing) {
            String type = trees.getTypeMirror(getCurrentPath()).toString();
            if (type.endsWith("String")) {
                forbid("texts joined by +", tree);
            }
            if (tree.getKind() == Tree.Kind.DIVIDE || tree.getKind() == Tree.Kind.REMAINDER) {
                noteDivisor(tree, type);
            }
            return super.visitBinary(tree, nothing);
        }

        /** A whole number is divided by constants alone, so that no divisor is ever 0. */
        private void noteDivisor(BinaryTree tree, String type) {
            Element divisor = trees.getElement(new TreePath(getCurrentPath(), tree.getRightOperand()));
            boolean isConstant = divisor != null && divisor.getKind() == ElementKind.FIELD
                && divisor.getSimpleName().toString().equals(divisor.getSimpleName().toString().toUpperCase());
            if (!isConstant && !type.equals("double")) {
                forbid("a divisor that is no constant", tree);
            }
        }

        @Override
        public Void visitImport(ImportTree tree, Void nothing) {
            forbid("an import", tree);
            return super.visitImport(tree, nothing);
        }

        @Override
        public Void visitLambdaExpression(LambdaExpressionTree tree, Void nothing) {
            forbid("a lambda", tree);
            return super.visitLambdaExpression(tree, nothing);
        }

        @Override
        public Void visitMemberReference(MemberReferenceTree tree, Void nothing) {
            forbid("a method reference", tree);
            return super.visitMemberReference(tree, nothing);
        }

        @Override
        public Void visitCatch(CatchTree tree, Void nothing) {
            forbid("a catch, which the program does not need", tree);
            return super.visitCatch(tree, nothing);
        }

        @Override
        public Void visitSynchronized(SynchronizedTree tree, Void nothing) {
            forbid("synchronized", tree);
            return super.visitSynchronized(tree, nothing);
        }

        @Override
        public Void visitAssert(AssertTree tree, Void nothing) {
            forbid("assert", tree);
            return super.visitAssert(tree, nothing);
        }

        private void forbid(String form, Tree tree) {
            forbidden.add(form + " in line " + lineAt(startOf(tree)));
        }

        private long startOf(Tree tree) {
            return trees.getSourcePositions().getStartPosition(unit, tree);
        }

        private long lineAt(long position) {
            return position < 0 ? 0 : unit.getLineMap().getLineNumber(position);
        }
    }
}
