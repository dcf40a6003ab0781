import com.sun.source.tree.AssertTree;
import com.sun.source.tree.BinaryTree;
import com.sun.source.tree.BlockTree;
import com.sun.source.tree.CatchTree;
import com.sun.source.tree.ClassTree;
import com.sun.source.tree.CompilationUnitTree;
import com.sun.source.tree.ExpressionTree;
import com.sun.source.tree.ImportTree;
import com.sun.source.tree.LambdaExpressionTree;
import com.sun.source.tree.LiteralTree;
import com.sun.source.tree.MemberReferenceTree;
import com.sun.source.tree.MemberSelectTree;
import com.sun.source.tree.MethodInvocationTree;
import com.sun.source.tree.MethodTree;
import com.sun.source.tree.NewClassTree;
import com.sun.source.tree.SynchronizedTree;
import com.sun.source.tree.ThrowTree;
import com.sun.source.tree.Tree;
import com.sun.source.tree.TryTree;
import com.sun.source.tree.VariableTree;
import com.sun.source.util.JavacTask;
import com.sun.source.util.SourcePositions;
import com.sun.source.util.TreeScanner;
import com.sun.source.util.Trees;
import java.io.IOException;
import java.nio.charset.StandardCharsets;
import java.nio.file.Files;
import java.nio.file.Path;
import java.util.HashSet;
import java.util.List;
import java.util.Set;
import javax.lang.model.element.Modifier;
import javax.tools.JavaCompiler;
import javax.tools.StandardJavaFileManager;
import javax.tools.ToolProvider;

/** The rules of LANGUAGE.md that can be read off the source; each finding names its rule. */
final class LanguageTest {
    private static final Set<String> IMPORTS = Set.of("java.util.NoSuchElementException", "java.util.ArrayList",
        "java.util.List", "java.util.Iterator", "java.util.Arrays");
    private static final Set<String> THROWN = Set.of("IllegalStateException", "IllegalArgumentException",
        "IndexOutOfBoundsException", "ArithmeticException", "UnsupportedOperationException",
        "NoSuchElementException", "RuntimeException");
    private static final Set<String> LIBRARY = Set.of("Math", "Integer", "Long", "System", "Arrays", "List");
    private static final Set<String> LIBRARY_CALLS = Set.of("compare", "max", "min", "abs", "bitCount", "floorDiv",
        "floorMod", "arraycopy", "copyOf", "copyOfRange", "fill", "of", "numberOfTrailingZeros",
        "numberOfLeadingZeros", "signum");

    public static void main(String[] args) throws IOException {
        Path file = Path.of("src/main/java/CrashDesk.java");
        String source = Files.readString(file, StandardCharsets.ISO_8859_1);
        Due.same("rule 3: signs of the source are plain", true, source.chars().allMatch(c -> c < 128));
        JavaCompiler compiler = ToolProvider.getSystemJavaCompiler();
        try (StandardJavaFileManager files = compiler.getStandardFileManager(null, null, null)) {
            JavacTask task = (JavacTask) compiler.getTask(null, files, null, null, null,
                files.getJavaFileObjects(file));
            for (CompilationUnitTree unit : task.parse()) {
                Due.same("rule 0: package line", true, unit.getPackageName() == null);
                new Names().scan(unit, null);
                new Rules(unit, Trees.instance(task).getSourcePositions()).scan(unit, null);
            }
        }
        Due.end("LanguageTest");
    }

    private static void no(int rule, String what) {
        Due.same("rule " + rule + ": " + what, "nothing such", "there is one");
    }

    /** Rule 1: no method inside bears the name of a public one. */
    private static final class Names extends TreeScanner<Void, Void> {
        private final Set<String> open = new HashSet<>();

        @Override
        public Void visitClass(ClassTree node, Void p) {
            for (Tree member : node.getMembers()) {
                if (member instanceof MethodTree m && !m.getName().contentEquals("<init>")) {
                    boolean isOpen = m.getModifiers().getFlags().contains(Modifier.PUBLIC);
                    if (isOpen) {
                        open.add(m.getName().toString());
                    } else if (open.contains(m.getName().toString())) {
                        no(1, "a method named like the public " + m.getName());
                    }
                }
            }
            return super.visitClass(node, p);
        }
    }

    private static final class Rules extends TreeScanner<Void, Void> {
        private final CompilationUnitTree unit;
        private final SourcePositions positions;
        private int classes = 0;
        private boolean inConstructor = false;

        Rules(CompilationUnitTree unit, SourcePositions positions) {
            this.unit = unit;
            this.positions = positions;
        }

        @Override
        public Void visitImport(ImportTree node, Void p) {
            Due.same("rule 4: import " + node.getQualifiedIdentifier(), true,
                !node.isStatic() && IMPORTS.contains(node.getQualifiedIdentifier().toString()));
            return null;
        }

        @Override
        public Void visitClass(ClassTree node, Void p) {
            classes++;
            Due.same("rule 11: classes up to " + node.getSimpleName(), true, classes <= 12);
            int fields = 0;
            for (Tree member : node.getMembers()) {
                if (member instanceof VariableTree v) {
                    Set<Modifier> flags = v.getModifiers().getFlags();
                    boolean fixed = flags.contains(Modifier.STATIC);
                    Due.same("rule 5: static " + v.getName(), true, !fixed || flags.contains(Modifier.FINAL));
                    fields += fixed ? 0 : 1;
                } else if (member instanceof BlockTree) {
                    no(5, "an initialiser block");
                }
            }
            Due.same("rule 11: fields of " + node.getSimpleName(), true, fields <= 20);
            return super.visitClass(node, p);
        }

        @Override
        public Void visitMethod(MethodTree node, Void p) {
            long from = unit.getLineMap().getLineNumber(positions.getStartPosition(unit, node));
            long to = unit.getLineMap().getLineNumber(positions.getEndPosition(unit, node));
            Due.same("rule 11: lines of " + node.getName(), true, to - from < 60);
            Due.same("rule 11: parameters of " + node.getName(), true, node.getParameters().size() <= 7);
            if (Set.of("equals", "hashCode", "toString").contains(node.getName().toString())) {
                no(6, node.getName().toString());
            }
            inConstructor = node.getName().contentEquals("<init>");
            super.visitMethod(node, p);
            inConstructor = false;
            return null;
        }

        @Override
        public Void visitThrow(ThrowTree node, Void p) {
            boolean plain = node.getExpression() instanceof NewClassTree made
                && THROWN.contains(made.getIdentifier().toString())
                && made.getArguments().stream().allMatch(a -> a instanceof LiteralTree);
            Due.same("rule 6: " + node, true, plain && !inConstructor);
            return super.visitThrow(node, p);
        }

        @Override
        public Void visitTry(TryTree node, Void p) {
            if (node.getFinallyBlock() != null || !node.getResources().isEmpty()) {
                no(6, "try with finally or resources");
            }
            return super.visitTry(node, p);
        }

        @Override
        public Void visitCatch(CatchTree node, Void p) {
            Due.same("rule 6: catch of " + node.getParameter().getType(), true,
                THROWN.contains(node.getParameter().getType().toString()));
            return super.visitCatch(node, p);
        }

        @Override
        public Void visitMethodInvocation(MethodInvocationTree node, Void p) {
            ExpressionTree called = node.getMethodSelect();
            if (called instanceof MemberSelectTree select
                && LIBRARY.contains(select.getExpression().toString())) {
                Due.same("rule 4: " + called, true, LIBRARY_CALLS.contains(select.getIdentifier().toString()));
            }
            return super.visitMethodInvocation(node, p);
        }

        @Override
        public Void visitBinary(BinaryTree node, Void p) {
            boolean text = List.of(node.getLeftOperand(), node.getRightOperand()).stream()
                .anyMatch(t -> t.getKind() == Tree.Kind.STRING_LITERAL);
            Due.same("rule 10: " + node, true, node.getKind() != Tree.Kind.PLUS || !text);
            return super.visitBinary(node, p);
        }

        @Override
        public Void visitLambdaExpression(LambdaExpressionTree node, Void p) {
            no(2, "a lambda");
            return null;
        }

        @Override
        public Void visitMemberReference(MemberReferenceTree node, Void p) {
            no(2, "a method reference");
            return null;
        }

        @Override
        public Void visitAssert(AssertTree node, Void p) {
            no(6, "assert");
            return null;
        }

        @Override
        public Void visitSynchronized(SynchronizedTree node, Void p) {
            no(6, "synchronized");
            return null;
        }
    }
}
