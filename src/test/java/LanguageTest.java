import com.sun.source.tree.AssertTree;
import com.sun.source.tree.BinaryTree;
import com.sun.source.tree.CatchTree;
import com.sun.source.tree.ClassTree;
import com.sun.source.tree.CompilationUnitTree;
import com.sun.source.tree.CompoundAssignmentTree;
import com.sun.source.tree.ExpressionTree;
import com.sun.source.tree.ImportTree;
import com.sun.source.tree.LambdaExpressionTree;
import com.sun.source.tree.LiteralTree;
import com.sun.source.tree.MemberReferenceTree;
import com.sun.source.tree.MethodInvocationTree;
import com.sun.source.tree.MethodTree;
import com.sun.source.tree.NewClassTree;
import com.sun.source.tree.SynchronizedTree;
import com.sun.source.tree.ThrowTree;
import com.sun.source.tree.Tree;
import com.sun.source.tree.TryTree;
import com.sun.source.tree.VariableTree;
import com.sun.source.util.JavacTask;
import com.sun.source.util.SourcePositions;
import com.sun.source.util.TreePath;
import com.sun.source.util.TreePathScanner;
import com.sun.source.util.Trees;
import java.io.File;
import java.io.IOException;
import java.util.ArrayList;
import java.util.List;
import java.util.Set;
import java.util.TreeSet;
import javax.lang.model.element.Element;
import javax.lang.model.element.ExecutableElement;
import javax.lang.model.element.Modifier;
import javax.lang.model.type.TypeMirror;
import javax.tools.JavaCompiler;
import javax.tools.StandardJavaFileManager;
import javax.tools.ToolProvider;

/** Reads the program's source and looks for what shared/LANGUAGE.md rules out, as far as that can be seen. */
public final class LanguageTest {
    private static final Set<String> IMPORTS = Set.of(
            "java.util.ArrayList", "java.util.Arrays", "java.util.List", "java.util.Iterator",
            "java.util.NoSuchElementException");
    private static final Set<String> LIBRARY = Set.of(
            "String.length", "String.charAt", "String.isEmpty", "String.equals", "String.indexOf",
            "String.substring", "String.toCharArray",
            "StringBuilder.append", "StringBuilder.charAt", "StringBuilder.setCharAt",
            "StringBuilder.setLength", "StringBuilder.deleteCharAt", "StringBuilder.reverse",
            "StringBuilder.length", "StringBuilder.toString",
            "ArrayList.add", "ArrayList.get", "ArrayList.set", "ArrayList.remove", "ArrayList.size",
            "ArrayList.isEmpty", "ArrayList.clear",
            "List.add", "List.get", "List.set", "List.remove", "List.size", "List.isEmpty", "List.clear", "List.of",
            "Math.max", "Math.min", "Math.abs", "Math.floorDiv", "Math.floorMod",
            "Integer.compare", "Integer.max", "Integer.min", "Integer.bitCount",
            "Long.compare", "Long.max", "Long.min", "Long.bitCount",
            "System.arraycopy", "Arrays.copyOf", "Arrays.copyOfRange", "Arrays.fill",
            "Array.clone");
    private static final Set<String> EXCEPTIONS = Set.of(
            "IllegalStateException", "IllegalArgumentException", "IndexOutOfBoundsException",
            "ArithmeticException", "UnsupportedOperationException", "NoSuchElementException", "RuntimeException");
    private static final Set<String> NO_CATCH = Set.of(
            "NullPointerException", "ArrayIndexOutOfBoundsException", "ClassCastException",
            "NegativeArraySizeException", "ArrayStoreException", "Exception", "Throwable");

    private static final Check check = new Check();

    public static void main(String[] args) throws IOException {
        JavaCompiler compiler = ToolProvider.getSystemJavaCompiler();
        StandardJavaFileManager files = compiler.getStandardFileManager(null, null, null);
        JavacTask task = (JavacTask) compiler.getTask(null, files, null,
                List.of("-proc:none"), null, files.getJavaFileObjects(new File(args[0])));
        CompilationUnitTree unit = task.parse().iterator().next();
        task.analyze();
        check.equal("no package line", 1, unit.getPackageName() == null ? 1 : 0);
        check.equal("one class at the top", 1, unit.getTypeDecls().size());
        Reader reader = new Reader(Trees.instance(task), unit);
        reader.scan(unit, null);
        check.equal("some twelve classes", 1, reader.classes <= 13 ? 1 : 0);
        check.end("LanguageTest");
    }

    private static final class Reader extends TreePathScanner<Void, Void> {
        private final Trees trees;
        private final CompilationUnitTree unit;
        private final Set<String> face = new TreeSet<>();
        private final List<String> otherMethods = new ArrayList<>();
        private int classes = 0;

        Reader(Trees trees, CompilationUnitTree unit) {
            this.trees = trees;
            this.unit = unit;
        }

        /** What the rules allow counts as an answer that is due. */
        private void rule(int number, boolean kept, Tree tree) {
            long line = unit.getLineMap().getLineNumber(start(tree));
            check.equal("rule " + number + ", line " + line, 1, kept ? 1 : 0);
        }

        private long start(Tree tree) {
            return Math.max(0, trees.getSourcePositions().getStartPosition(unit, tree));
        }

        private long lines(Tree tree) {
            SourcePositions positions = trees.getSourcePositions();
            return unit.getLineMap().getLineNumber(positions.getEndPosition(unit, tree))
                    - unit.getLineMap().getLineNumber(start(tree)) + 1;
        }

        @Override
        public Void visitCompilationUnit(CompilationUnitTree tree, Void nothing) {
            super.visitCompilationUnit(tree, nothing);
            for (String name : otherMethods) {
                check.equal("rule 1, the name of " + name, 0, face.contains(name) ? 1 : 0);
            }
            return null;
        }

        @Override
        public Void visitImport(ImportTree tree, Void nothing) {
            rule(4, !tree.isStatic() && IMPORTS.contains(tree.getQualifiedIdentifier().toString()), tree);
            return super.visitImport(tree, nothing);
        }

        @Override
        public Void visitClass(ClassTree tree, Void nothing) {
            classes++;
            int fields = 0;
            for (Tree member : tree.getMembers()) {
                rule(5, member.getKind() != Tree.Kind.BLOCK, member);
                if (member instanceof VariableTree field) {
                    Set<Modifier> modifiers = field.getModifiers().getFlags();
                    boolean isStatic = modifiers.contains(Modifier.STATIC);
                    rule(5, !isStatic || modifiers.contains(Modifier.FINAL), field);
                    fields += isStatic ? 0 : 1;
                }
            }
            rule(11, fields <= 20, tree);
            return super.visitClass(tree, nothing);
        }

        @Override
        public Void visitMethod(MethodTree tree, Void nothing) {
            String name = tree.getName().toString();
            if (tree.getModifiers().getFlags().contains(Modifier.PUBLIC)) {
                face.add(name);
            } else if (!name.equals("<init>")) {
                otherMethods.add(name);
            }
            rule(6, !Set.of("equals", "hashCode", "toString").contains(name), tree);
            rule(11, tree.getParameters().size() <= 7, tree);
            rule(11, lines(tree) <= 60, tree);
            return super.visitMethod(tree, nothing);
        }

        @Override
        public Void visitMethodInvocation(MethodInvocationTree tree, Void nothing) {
            Element called = trees.getElement(new TreePath(getCurrentPath(), tree.getMethodSelect()));
            if (called instanceof ExecutableElement method) {
                String owner = method.getEnclosingElement().toString().replaceAll("<.*", "");
                String name = method.getSimpleName().toString();
                if (!owner.startsWith("MessageCentre") && !name.equals("<init>")) {
                    String shortOwner = owner.substring(owner.lastIndexOf('.') + 1);
                    rule(4, LIBRARY.contains(shortOwner + "." + name), tree);
                }
            }
            return super.visitMethodInvocation(tree, nothing);
        }

        @Override
        public Void visitThrow(ThrowTree tree, Void nothing) {
            ExpressionTree thrown = tree.getExpression();
            boolean kept = thrown instanceof NewClassTree made
                    && EXCEPTIONS.contains(made.getIdentifier().toString())
                    && made.getArguments().size() <= 1
                    && made.getArguments().stream().allMatch(text -> text instanceof LiteralTree);
            rule(6, kept, tree);
            rule(6, !methodAround().getName().contentEquals("<init>"), tree);
            return super.visitThrow(tree, nothing);
        }

        private MethodTree methodAround() {
            TreePath path = getCurrentPath();
            while (!(path.getLeaf() instanceof MethodTree)) {
                path = path.getParentPath();
            }
            return (MethodTree) path.getLeaf();
        }

        @Override
        public Void visitTry(TryTree tree, Void nothing) {
            rule(6, tree.getFinallyBlock() == null && tree.getResources().isEmpty(), tree);
            return super.visitTry(tree, nothing);
        }

        @Override
        public Void visitCatch(CatchTree tree, Void nothing) {
            String caught = tree.getParameter().getType().toString();
            rule(6, EXCEPTIONS.contains(caught) && !NO_CATCH.contains(caught), tree);
            return super.visitCatch(tree, nothing);
        }

        @Override
        public Void visitBinary(BinaryTree tree, Void nothing) {
            TypeMirror type = trees.getTypeMirror(getCurrentPath());
            rule(10, type == null || !type.toString().equals("java.lang.String"), tree);
            return super.visitBinary(tree, nothing);
        }

        @Override
        public Void visitCompoundAssignment(CompoundAssignmentTree tree, Void nothing) {
            TypeMirror type = trees.getTypeMirror(getCurrentPath());
            rule(10, type == null || !type.toString().equals("java.lang.String"), tree);
            return super.visitCompoundAssignment(tree, nothing);
        }

        @Override
        public Void visitLambdaExpression(LambdaExpressionTree tree, Void nothing) {
            rule(2, false, tree);
            return super.visitLambdaExpression(tree, nothing);
        }

        @Override
        public Void visitMemberReference(MemberReferenceTree tree, Void nothing) {
            rule(2, false, tree);
            return super.visitMemberReference(tree, nothing);
        }

        @Override
        public Void visitSynchronized(SynchronizedTree tree, Void nothing) {
            rule(6, false, tree);
            return super.visitSynchronized(tree, nothing);
        }

        @Override
        public Void visitAssert(AssertTree tree, Void nothing) {
            rule(6, false, tree);
            return super.visitAssert(tree, nothing);
        }
    }
}
