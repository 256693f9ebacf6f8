import com.sun.source.tree.AssertTree;
import com.sun.source.tree.BinaryTree;
import com.sun.source.tree.BlockTree;
import com.sun.source.tree.CatchTree;
import com.sun.source.tree.ClassTree;
import com.sun.source.tree.CompilationUnitTree;
import com.sun.source.tree.ImportTree;
import com.sun.source.tree.LambdaExpressionTree;
import com.sun.source.tree.MemberReferenceTree;
import com.sun.source.tree.MemberSelectTree;
import com.sun.source.tree.MethodTree;
import com.sun.source.tree.NewClassTree;
import com.sun.source.tree.SynchronizedTree;
import com.sun.source.tree.ThrowTree;
import com.sun.source.tree.Tree;
import com.sun.source.tree.TryTree;
import com.sun.source.tree.VariableTree;
import com.sun.source.util.JavacTask;
import com.sun.source.util.TreeScanner;
import com.sun.source.util.Trees;
import java.io.IOException;
import java.net.URI;
import java.nio.file.Files;
import java.nio.file.Path;
import java.util.ArrayList;
import java.util.List;
import java.util.Map;
import java.util.Set;
import javax.lang.model.element.Modifier;
import javax.tools.JavaFileObject;
import javax.tools.SimpleJavaFileObject;
import javax.tools.ToolProvider;

/** Of rules 1, 2, 4, 5, 6, 10 and 11 of LANGUAGE.md what is plain from the text; 1 also in FaceTest. */
public final class LanguageTest {
    /** What stands there above rule 1. */
    private static final int HEAD = 0;
    private static final Set<String> IMPORTS = Set.of("java.util.ArrayList", "java.util.List",
            "java.util.Iterator", "java.util.Arrays", "java.util.NoSuchElementException");
    private static final Set<String> THROWN = Set.of("IllegalStateException", "IllegalArgumentException",
            "IndexOutOfBoundsException", "ArithmeticException", "UnsupportedOperationException",
            "NoSuchElementException", "RuntimeException");
    private static final Set<String> CONSTANTS = Set.of("int", "long", "boolean", "char", "String",
            "int[]", "long[]", "char[]", "byte[]");
    private static final Map<String, Set<String>> CALLED = Map.of(
            "Arrays", Set.of("copyOf", "copyOfRange", "fill"),
            "System", Set.of("arraycopy"));
    private static final Set<String> NUMBERS = Set.of("Math", "Integer", "Long");
    private static final Set<String> OUTSIDE = Set.of("Thread", "Runtime", "Process", "ProcessBuilder",
            "Object", "Class", "StrictMath", "Character", "Byte", "Short", "Double", "Float", "Boolean");
    private static final Set<String> OF_OBJECTS = Set.of("equals", "hashCode", "toString");

    public static void main(String[] args) throws IOException {
        theProgramKeepsToTheRules();
        whatBreaksARuleIsSeen();
        Check.finish();
    }

    private static void theProgramKeepsToTheRules() throws IOException {
        String program = Files.readString(Path.of("src/main/java/MomentTree.java"));
        Check.due("rules broken", faults(program).toString(), "[]");
    }

    /** A scan that saw nothing would find no fault in any program. */
    private static void whatBreaksARuleIsSeen() throws IOException {
        seen(HEAD, "package p;", "");
        seen(1, "", "public static final class Open { }");
        seen(1, "class Other { }", "");
        seen(2, "", "private Runnable r() { return () -> { }; }");
        seen(2, "", "private Runnable r() { return this::toString; }");
        seen(4, "import java.util.Random;", "");
        seen(4, "", "private long now() { return System.nanoTime(); }");
        seen(4, "", "private int sum(int a) { return Math.addExact(a, a); }");
        seen(4, "", "private void sort(int[] a) { Arrays.sort(a); }");
        seen(4, "", "private void halt() { Thread.yield(); }");
        seen(4, "", "private java.util.Random random;");
        seen(5, "", "private static int state;");
        seen(5, "", "private static final int[][] TABLE = {{1}};");
        seen(5, "", "static { }");
        seen(6, "", "X() { throw new RuntimeException(); }");
        seen(6, "", "private void t() { throw new Error(); }");
        seen(6, "", "private void t(String s) { throw new RuntimeException(s); }");
        seen(6, "", "private void t(RuntimeException e) { throw e; }");
        seen(6, "", "private void t() { try { t(); } finally { t(); } }");
        seen(6, "", "private void t() { try { t(); } catch (Exception e) { t(); } }");
        seen(6, "", "private void t() { synchronized (this) { } }");
        seen(6, "", "private void t() { assert true; }");
        seen(6, "", "public int hashCode() { return 0; }");
        seen(10, "", "private String t(int a) { return \"a\" + a; }");
        seen(11, "", "private void t(int a, int b, int c, int d, int e, int f, int g, int h) { }");
        seen(11, "", "private void t() {" + "\n".repeat(70) + "}");
        seen(11, "", "private static class C { }".repeat(12));
        seen(11, "", "private int a;".repeat(21));
    }

    private static void seen(int rule, String head, String member) throws IOException {
        String text = head + "final class X { " + member + " }";
        List<String> faults = faults(text);
        boolean isSeen = faults.stream().anyMatch(fault -> fault.startsWith("rule " + rule + ":"));
        Check.due("rule " + rule + " is broken by " + text + ", seen " + faults, isSeen ? 1 : 0, 1);
    }

    private static List<String> faults(String text) throws IOException {
        JavaFileObject file = new SimpleJavaFileObject(URI.create("string:///X.java"),
                JavaFileObject.Kind.SOURCE) {
            @Override
            public CharSequence getCharContent(boolean ignoreEncodingErrors) {
                return text;
            }
        };
        JavacTask task = (JavacTask) ToolProvider.getSystemJavaCompiler()
                .getTask(null, null, null, null, null, List.of(file));
        CompilationUnitTree unit = task.parse().iterator().next();
        Scan scan = new Scan(unit, Trees.instance(task));
        scan.scan(unit, null);
        scan.end();
        return scan.faults;
    }

    private static final class Scan extends TreeScanner<Void, Void> {
        final List<String> faults = new ArrayList<>();
        private final CompilationUnitTree unit;
        private final Trees trees;
        private int classes = 0;
        private boolean inConstructor = false;

        Scan(CompilationUnitTree unit, Trees trees) {
            this.unit = unit;
            this.trees = trees;
        }

        private void fault(int rule, Tree tree) {
            String text = tree.toString().strip();
            faults.add("rule " + rule + ": " + text.substring(0, Math.min(60, text.length())));
        }

        private void faultIf(boolean broken, int rule, Tree tree) {
            if (broken) {
                fault(rule, tree);
            }
        }

        void end() {
            faultIf(unit.getPackageName() != null, HEAD, unit);
            faultIf(unit.getTypeDecls().size() != 1, 1, unit);
            faultIf(classes > 12, 11, unit);
        }

        @Override
        public Void visitImport(ImportTree tree, Void nothing) {
            String name = tree.getQualifiedIdentifier().toString();
            faultIf(tree.isStatic() || !IMPORTS.contains(name), 4, tree);
            return null;
        }

        @Override
        public Void visitClass(ClassTree tree, Void nothing) {
            classes++;
            Set<Modifier> modifiers = tree.getModifiers().getFlags();
            boolean isInside = !unit.getTypeDecls().contains(tree);
            boolean isOpen = modifiers.contains(Modifier.PUBLIC) || modifiers.contains(Modifier.PROTECTED);
            faultIf(isInside && isOpen, 1, tree);
            int fields = 0;
            for (Tree member : tree.getMembers()) {
                if (member instanceof VariableTree field) {
                    fields += isStatic(field) ? 0 : 1;
                    faultIf(isStatic(field) && !isConstant(field), 5, field);
                }
                faultIf(member instanceof BlockTree block && block.isStatic(), 5, member);
            }
            faultIf(fields > 20, 11, tree);
            return super.visitClass(tree, nothing);
        }

        private static boolean isStatic(VariableTree field) {
            return field.getModifiers().getFlags().contains(Modifier.STATIC);
        }

        private static boolean isConstant(VariableTree field) {
            return field.getModifiers().getFlags().contains(Modifier.FINAL)
                    && field.getInitializer() != null && CONSTANTS.contains(field.getType().toString());
        }

        @Override
        public Void visitMethod(MethodTree tree, Void nothing) {
            faultIf(tree.getParameters().size() > 7, 11, tree);
            faultIf(linesOf(tree) > 60, 11, tree);
            faultIf(OF_OBJECTS.contains(tree.getName().toString()), 6, tree);
            inConstructor = tree.getReturnType() == null;
            super.visitMethod(tree, nothing);
            inConstructor = false;
            return null;
        }

        private long linesOf(Tree tree) {
            long from = trees.getSourcePositions().getStartPosition(unit, tree);
            long to = trees.getSourcePositions().getEndPosition(unit, tree);
            return unit.getLineMap().getLineNumber(to) - unit.getLineMap().getLineNumber(from) + 1;
        }

        @Override
        public Void visitThrow(ThrowTree tree, Void nothing) {
            faultIf(inConstructor || !isMadeByRule(tree), 6, tree);
            return super.visitThrow(tree, nothing);
        }

        private static boolean isMadeByRule(ThrowTree tree) {
            return tree.getExpression() instanceof NewClassTree made
                    && THROWN.contains(made.getIdentifier().toString())
                    && made.getArguments().size() <= 1
                    && made.getArguments().stream().allMatch(text -> text.getKind() == Tree.Kind.STRING_LITERAL);
        }

        @Override
        public Void visitTry(TryTree tree, Void nothing) {
            faultIf(tree.getFinallyBlock() != null || !tree.getResources().isEmpty(), 6, tree);
            return super.visitTry(tree, nothing);
        }

        @Override
        public Void visitCatch(CatchTree tree, Void nothing) {
            faultIf(!THROWN.contains(tree.getParameter().getType().toString()), 6, tree);
            return super.visitCatch(tree, nothing);
        }

        @Override
        public Void visitSynchronized(SynchronizedTree tree, Void nothing) {
            fault(6, tree);
            return super.visitSynchronized(tree, nothing);
        }

        @Override
        public Void visitAssert(AssertTree tree, Void nothing) {
            fault(6, tree);
            return super.visitAssert(tree, nothing);
        }

        @Override
        public Void visitLambdaExpression(LambdaExpressionTree tree, Void nothing) {
            fault(2, tree);
            return super.visitLambdaExpression(tree, nothing);
        }

        @Override
        public Void visitMemberReference(MemberReferenceTree tree, Void nothing) {
            fault(2, tree);
            return super.visitMemberReference(tree, nothing);
        }

        @Override
        public Void visitBinary(BinaryTree tree, Void nothing) {
            boolean joins = tree.getLeftOperand().getKind() == Tree.Kind.STRING_LITERAL
                    || tree.getRightOperand().getKind() == Tree.Kind.STRING_LITERAL;
            faultIf(tree.getKind() == Tree.Kind.PLUS && joins, 10, tree);
            return super.visitBinary(tree, nothing);
        }

        @Override
        public Void visitMemberSelect(MemberSelectTree tree, Void nothing) {
            String of = tree.getExpression().toString();
            String name = tree.getIdentifier().toString();
            faultIf(CALLED.containsKey(of) && !CALLED.get(of).contains(name), 4, tree);
            faultIf(NUMBERS.contains(of) && name.endsWith("Exact"), 4, tree);
            faultIf(OUTSIDE.contains(of), 4, tree);
            faultIf(of.startsWith("java.") && !IMPORTS.contains(tree.toString()), 4, tree);
            return super.visitMemberSelect(tree, nothing);
        }
    }
}
