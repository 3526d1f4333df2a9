import com.sun.source.tree.AssertTree;
import com.sun.source.tree.BinaryTree;
import com.sun.source.tree.ClassTree;
import com.sun.source.tree.CompilationUnitTree;
import com.sun.source.tree.DoWhileLoopTree;
import com.sun.source.tree.EnhancedForLoopTree;
import com.sun.source.tree.ExpressionTree;
import com.sun.source.tree.ForLoopTree;
import com.sun.source.tree.ImportTree;
import com.sun.source.tree.LambdaExpressionTree;
import com.sun.source.tree.MemberReferenceTree;
import com.sun.source.tree.MethodInvocationTree;
import com.sun.source.tree.MethodTree;
import com.sun.source.tree.NewClassTree;
import com.sun.source.tree.SynchronizedTree;
import com.sun.source.tree.ThrowTree;
import com.sun.source.tree.Tree;
import com.sun.source.tree.TryTree;
import com.sun.source.tree.VariableTree;
import com.sun.source.tree.WhileLoopTree;
import com.sun.source.util.JavacTask;
import com.sun.source.util.SourcePositions;
import com.sun.source.util.TreePath;
import com.sun.source.util.TreePathScanner;
import com.sun.source.util.Trees;
import java.nio.charset.StandardCharsets;
import java.nio.file.Files;
import java.nio.file.Path;
import java.util.HashMap;
import java.util.HashSet;
import java.util.List;
import java.util.Map;
import java.util.Set;
import java.util.TreeSet;
import java.util.regex.Matcher;
import java.util.regex.Pattern;
import javax.lang.model.element.Element;
import javax.lang.model.element.ElementKind;
import javax.lang.model.element.ExecutableElement;
import javax.lang.model.element.Modifier;
import javax.lang.model.element.TypeElement;
import javax.lang.model.type.TypeKind;
import javax.lang.model.type.TypeMirror;
import javax.tools.JavaCompiler;
import javax.tools.StandardJavaFileManager;
import javax.tools.ToolProvider;

/**
 * The rules of LANGUAGE.md that can be read off the source; what the program does not use at all is
 * refused here even where a rule would let it through.
 * It is run from the project's root; another source may be named.
 */
public final class LanguageTest {
    private static final int MOST_PARAMETERS = 7;
    private static final int MOST_LINES = 60;
    private static final int MOST_OPEN_CALLS = 8;
    private static final int MOST_CLASSES = 12;
    private static final int MOST_FIELDS = 20;

    private static final Set<String> EXCEPTIONS = Set.of("IllegalStateException", "IllegalArgumentException",
            "IndexOutOfBoundsException", "ArithmeticException", "UnsupportedOperationException",
            "NoSuchElementException", "RuntimeException");
    private static final Set<String> LIBRARY = Set.of("java.lang.Math.min", "java.lang.Math.max",
            "java.lang.Object.<init>");
    private static final Set<String> CONSTANT_TYPES = Set.of("int", "long", "boolean", "char", "java.lang.String");
    private static final Set<TypeKind> NUMBERS = Set.of(TypeKind.INT, TypeKind.LONG, TypeKind.BOOLEAN);

    private static int wrong = 0;

    private static void refuse(int rule, String what) {
        wrong++;
        System.out.println("rule " + rule + ": " + what);
    }

    private static final class Reader extends TreePathScanner<Void, Void> {
        private final CompilationUnitTree unit;
        private final Trees trees;
        private final Map<Element, Set<Element>> calls = new HashMap<>();
        private final Set<String> publicNames = new HashSet<>();
        private final Set<String> privateNames = new TreeSet<>();
        private MethodTree within;
        private int classes;

        Reader(CompilationUnitTree unit, Trees trees) {
            this.unit = unit;
            this.trees = trees;
        }

        private Element element() {
            return trees.getElement(getCurrentPath());
        }

        private long line(long position) {
            return unit.getLineMap().getLineNumber(position);
        }

        private String where(Tree tree) {
            return "line " + line(trees.getSourcePositions().getStartPosition(unit, tree));
        }

        private boolean isOwn(Element element) {
            Element outermost = element;
            while (outermost.getEnclosingElement().getKind() != ElementKind.PACKAGE) {
                outermost = outermost.getEnclosingElement();
            }
            return outermost.getSimpleName().contentEquals("LoanDesk");
        }

        @Override
        public Void visitImport(ImportTree tree, Void nothing) {
            if (!tree.toString().trim().equals("import java.util.NoSuchElementException;")) {
                refuse(4, tree.toString().trim());
            }
            return super.visitImport(tree, nothing);
        }

        @Override
        public Void visitClass(ClassTree tree, Void nothing) {
            classes++;
            TypeElement seen = (TypeElement) element();
            boolean outer = seen.getEnclosingElement().getKind() == ElementKind.PACKAGE;
            Set<Modifier> modifiers = seen.getModifiers();
            if (outer != modifiers.contains(Modifier.PUBLIC) || !modifiers.contains(Modifier.FINAL)
                    || (!outer && !modifiers.contains(Modifier.STATIC))) {
                refuse(outer ? 1 : 2, tree.getSimpleName() + " is " + modifiers);
            }
            int fields = 0;
            for (Tree member : tree.getMembers()) {
                if (member.getKind() == Tree.Kind.BLOCK) {
                    refuse(5, where(member) + ": an initialiser block");
                }
                if (member instanceof VariableTree field
                        && !field.getModifiers().getFlags().contains(Modifier.STATIC)) {
                    fields++;
                }
            }
            if (fields > MOST_FIELDS) {
                refuse(11, tree.getSimpleName() + " has " + fields + " fields");
            }
            return super.visitClass(tree, nothing);
        }

        @Override
        public Void visitVariable(VariableTree tree, Void nothing) {
            Element seen = element();
            TypeMirror type = seen.asType();
            boolean isStatic = seen.getModifiers().contains(Modifier.STATIC);
            if (isStatic && (!seen.getModifiers().contains(Modifier.FINAL)
                    || !CONSTANT_TYPES.contains(type.toString()))) {
                refuse(5, where(tree) + ": " + tree);
            }
            if (!isAllowed(type)) {
                refuse(3, where(tree) + ": " + type + " " + tree.getName());
            }
            return super.visitVariable(tree, nothing);
        }

        private boolean isAllowed(TypeMirror type) {
            if (type.getKind() == TypeKind.ARRAY) {
                return isAllowed(((javax.lang.model.type.ArrayType) type).getComponentType());
            }
            return NUMBERS.contains(type.getKind()) || type.toString().startsWith("LoanDesk.");
        }

        @Override
        public Void visitMethod(MethodTree tree, Void nothing) {
            MethodTree before = within;
            within = tree;
            Element seen = element();
            calls.computeIfAbsent(seen, key -> new HashSet<>());
            if (seen.getKind() == ElementKind.METHOD) {
                noteName(seen);
            }
            if (tree.getParameters().size() > MOST_PARAMETERS) {
                refuse(11, where(tree) + ": " + tree.getName() + " takes " + tree.getParameters().size());
            }
            long lines = linesOf(tree);
            if (lines > MOST_LINES) {
                refuse(11, where(tree) + ": " + tree.getName() + " has " + lines + " lines");
            }
            super.visitMethod(tree, nothing);
            within = before;
            return null;
        }

        private void noteName(Element seen) {
            Set<Modifier> modifiers = seen.getModifiers();
            if (modifiers.contains(Modifier.PUBLIC)) {
                publicNames.add(seen.getSimpleName().toString());
            } else if (modifiers.contains(Modifier.PRIVATE)) {
                privateNames.add(seen.getSimpleName().toString());
            }
        }

        private long linesOf(MethodTree tree) {
            SourcePositions positions = trees.getSourcePositions();
            long start = positions.getStartPosition(unit, tree);
            long end = positions.getEndPosition(unit, tree);
            return end < 0 ? 0 : line(end) - line(start) + 1;
        }

        private boolean inConstructor() {
            return within != null && within.getReturnType() == null;
        }

        @Override
        public Void visitMethodInvocation(MethodInvocationTree tree, Void nothing) {
            ExecutableElement called = (ExecutableElement) element();
            String name = called.getEnclosingElement() + "." + called.getSimpleName();
            if (!isOwn(called) && !LIBRARY.contains(name)) {
                refuse(4, where(tree) + ": " + name);
            }
            if (inConstructor() && isOwn(called)
                    && !called.getEnclosingElement().getModifiers().contains(Modifier.FINAL)) {
                refuse(12, where(tree) + ": a constructor calls " + name);
            }
            noteCall(called);
            return super.visitMethodInvocation(tree, nothing);
        }

        @Override
        public Void visitNewClass(NewClassTree tree, Void nothing) {
            Element made = element();
            boolean thrown = getCurrentPath().getParentPath().getLeaf() instanceof ThrowTree;
            if (!isOwn(made) && !thrown) {
                refuse(3, where(tree) + ": " + tree);
            }
            if (tree.getClassBody() != null) {
                refuse(2, where(tree) + ": a class without a name");
            }
            noteCall(made);
            return super.visitNewClass(tree, nothing);
        }

        private void noteCall(Element called) {
            if (within != null && isOwn(called)) {
                TreePath path = getCurrentPath();
                while (path.getLeaf() != within) {
                    path = path.getParentPath();
                }
                calls.get(trees.getElement(path)).add(called);
            }
        }

        @Override
        public Void visitThrow(ThrowTree tree, Void nothing) {
            ExpressionTree what = tree.getExpression();
            boolean plain = what instanceof NewClassTree made
                    && EXCEPTIONS.contains(made.getIdentifier().toString())
                    && (made.getArguments().isEmpty() || made.getArguments().size() == 1
                            && made.getArguments().get(0).getKind() == Tree.Kind.STRING_LITERAL);
            if (!plain || inConstructor()) {
                refuse(6, where(tree) + ": " + tree);
            }
            return super.visitThrow(tree, nothing);
        }

        @Override
        public Void visitTry(TryTree tree, Void nothing) {
            refuse(6, where(tree) + ": try");
            return super.visitTry(tree, nothing);
        }

        @Override
        public Void visitSynchronized(SynchronizedTree tree, Void nothing) {
            refuse(6, where(tree) + ": synchronized");
            return super.visitSynchronized(tree, nothing);
        }

        @Override
        public Void visitAssert(AssertTree tree, Void nothing) {
            refuse(6, where(tree) + ": assert");
            return super.visitAssert(tree, nothing);
        }

        @Override
        public Void visitLambdaExpression(LambdaExpressionTree tree, Void nothing) {
            refuse(2, where(tree) + ": a lambda");
            return super.visitLambdaExpression(tree, nothing);
        }

        @Override
        public Void visitMemberReference(MemberReferenceTree tree, Void nothing) {
            refuse(2, where(tree) + ": a method reference");
            return super.visitMemberReference(tree, nothing);
        }

        /** A loop of this program counts up against a bound in its own head. */
        @Override
        public Void visitForLoop(ForLoopTree tree, Void nothing) {
            Pattern counted = Pattern.compile("int (\\w+) = [\\w +]+; .*\\b\\1 <=? [\\w.]+.*; \\1\\+\\+");
            String head = tree.getInitializer().size() == 1 && tree.getUpdate().size() == 1
                    ? tree.getInitializer().get(0) + "; " + tree.getCondition() + "; "
                            + tree.getUpdate().get(0).toString().replace(";", "")
                    : "";
            Matcher matcher = counted.matcher(head);
            if (!matcher.matches() || head.contains("||") || tree.getStatement().toString().contains(
                    matcher.group(1) + "--")) {
                refuse(9, where(tree) + ": " + head);
            }
            return super.visitForLoop(tree, nothing);
        }

        @Override
        public Void visitWhileLoop(WhileLoopTree tree, Void nothing) {
            refuse(9, where(tree) + ": while");
            return super.visitWhileLoop(tree, nothing);
        }

        @Override
        public Void visitDoWhileLoop(DoWhileLoopTree tree, Void nothing) {
            refuse(9, where(tree) + ": do");
            return super.visitDoWhileLoop(tree, nothing);
        }

        @Override
        public Void visitEnhancedForLoop(EnhancedForLoopTree tree, Void nothing) {
            refuse(9, where(tree) + ": for over something");
            return super.visitEnhancedForLoop(tree, nothing);
        }

        /** A divisor that is written out or a constant is never 0; the others are told here by name. */
        @Override
        public Void visitBinary(BinaryTree tree, Void nothing) {
            if (tree.getKind() == Tree.Kind.DIVIDE || tree.getKind() == Tree.Kind.REMAINDER) {
                String divisor = tree.getRightOperand().toString();
                boolean constant = divisor.matches("[1-9]\\d*|[A-Z_]+|Days\\.[A-Z_]+");
                boolean lookedAt = divisor.equals("bottom") && within.toString().contains("if (bottom <= 0)");
                if (!constant && !lookedAt) {
                    refuse(7, where(tree) + ": divides by " + divisor);
                }
            }
            if (tree.getKind() == Tree.Kind.PLUS
                    && trees.getTypeMirror(getCurrentPath()).toString().contains("String")) {
                refuse(10, where(tree) + ": " + tree);
            }
            return super.visitBinary(tree, nothing);
        }

        void judgeWhole() {
            if (classes > MOST_CLASSES) {
                refuse(11, classes + " classes");
            }
            privateNames.retainAll(publicNames);
            if (!privateNames.isEmpty()) {
                refuse(1, "private methods with a public one's name: " + privateNames);
            }
            int deepest = 0;
            for (Element method : calls.keySet()) {
                deepest = Math.max(deepest, depth(method, 1));
            }
            if (deepest > MOST_OPEN_CALLS) {
                refuse(11, "calls go " + deepest + " deep, or in a circle");
            }
        }

        private int depth(Element method, int above) {
            int deepest = above;
            if (above <= MOST_OPEN_CALLS) {
                for (Element called : calls.getOrDefault(method, Set.of())) {
                    deepest = Math.max(deepest, depth(called, above + 1));
                }
            }
            return deepest;
        }
    }

    public static void main(String[] args) throws Exception {
        Path source = Path.of(args.length > 0 ? args[0] : "src/main/java/LoanDesk.java");
        JavaCompiler compiler = ToolProvider.getSystemJavaCompiler();
        if (!Files.isRegularFile(source) || compiler == null) {
            System.out.println("there is no source here, or no compiler; run this from the project's root");
            System.exit(1);
        }
        try (StandardJavaFileManager files = compiler.getStandardFileManager(null, null, StandardCharsets.UTF_8)) {
            JavacTask task = (JavacTask) compiler.getTask(null, files, null, List.of("--release", "17"), null,
                    files.getJavaFileObjects(source));
            CompilationUnitTree unit = task.parse().iterator().next();
            task.analyze();
            if (unit.getPackageName() != null || unit.getTypeDecls().size() != 1) {
                refuse(1, "the file has a package line or not one class");
            }
            Reader reader = new Reader(unit, Trees.instance(task));
            reader.scan(new TreePath(unit), null);
            reader.judgeWhole();
        }
        System.out.println(wrong == 0 ? "the source keeps to the rules" : wrong + " not by the rules");
        if (wrong > 0) {
            System.exit(1);
        }
    }
}
