import com.sun.source.tree.AssertTree;
import com.sun.source.tree.BinaryTree;
import com.sun.source.tree.BlockTree;
import com.sun.source.tree.CatchTree;
import com.sun.source.tree.ClassTree;
import com.sun.source.tree.CompilationUnitTree;
import com.sun.source.tree.DoWhileLoopTree;
import com.sun.source.tree.ExpressionTree;
import com.sun.source.tree.ForLoopTree;
import com.sun.source.tree.ImportTree;
import com.sun.source.tree.LambdaExpressionTree;
import com.sun.source.tree.LiteralTree;
import com.sun.source.tree.MemberReferenceTree;
import com.sun.source.tree.MethodInvocationTree;
import com.sun.source.tree.MethodTree;
import com.sun.source.tree.NewClassTree;
import com.sun.source.tree.ParenthesizedTree;
import com.sun.source.tree.SynchronizedTree;
import com.sun.source.tree.ThrowTree;
import com.sun.source.tree.Tree;
import com.sun.source.tree.TryTree;
import com.sun.source.tree.VariableTree;
import com.sun.source.tree.WhileLoopTree;
import com.sun.source.util.JavacTask;
import com.sun.source.util.TreePathScanner;
import com.sun.source.util.Trees;
import java.io.File;
import java.util.ArrayList;
import java.util.List;
import java.util.Map;
import java.util.Set;
import java.util.TreeMap;
import java.util.TreeSet;
import javax.lang.model.element.Element;
import javax.lang.model.element.ExecutableElement;
import javax.lang.model.element.Modifier;
import javax.lang.model.element.TypeElement;
import javax.lang.model.type.ArrayType;
import javax.lang.model.type.TypeKind;
import javax.lang.model.type.TypeMirror;
import javax.tools.JavaCompiler;
import javax.tools.StandardJavaFileManager;
import javax.tools.ToolProvider;

/** The rules of LANGUAGE.md that can be read off the program's text, on the compiler's own tree of it. */
public final class SpillikinTableLanguage {
    private static final String SOURCE = "src/main/java/SpillikinTable.java";
    private static final int MOST_PARAMETERS = 7;
    private static final int MOST_LINES = 60;
    private static final int MOST_DEPTH = 8;
    private static final int MOST_CLASSES = 12;
    private static final int MOST_FIELDS = 20;
    private static final Set<String> IMPORTS = Set.of("java.util.NoSuchElementException", "java.util.ArrayList",
            "java.util.List", "java.util.Arrays", "java.util.Iterator");
    private static final Set<String> THROWN = Set.of("IllegalStateException", "IllegalArgumentException",
            "IndexOutOfBoundsException", "ArithmeticException", "UnsupportedOperationException",
            "NoSuchElementException", "RuntimeException");
    /** Narrower than rule 4: what the program uses of it. */
    private static final Set<String> LIBRARY = Set.of("Math.abs", "Math.max", "Math.min", "Long.bitCount",
            "Integer.bitCount", "System.arraycopy", "Arrays.fill");

    private final List<String> faults = new ArrayList<>();
    private final Map<String, Set<String>> calls = new TreeMap<>();
    private CompilationUnitTree unit;
    private Trees trees;
    private int classes = 0;

    private void fault(int rule, Tree at, String text) {
        long start = trees.getSourcePositions().getStartPosition(unit, at);
        faults.add("rule " + rule + ", line " + unit.getLineMap().getLineNumber(start) + ": " + text);
    }

    private long linesOf(Tree tree) {
        long first = trees.getSourcePositions().getStartPosition(unit, tree);
        long last = trees.getSourcePositions().getEndPosition(unit, tree);
        return unit.getLineMap().getLineNumber(last) - unit.getLineMap().getLineNumber(first) + 1;
    }

    private static boolean isOwn(Element element) {
        Element at = element;
        while (at.getEnclosingElement() != null && at.getEnclosingElement() instanceof TypeElement) {
            at = at.getEnclosingElement();
        }
        return at.getSimpleName().contentEquals("SpillikinTable");
    }

    private static String nameOf(Element method) {
        return method.getEnclosingElement().getSimpleName() + "." + method;
    }

    private static boolean isAllowed(TypeMirror type) {
        if (type instanceof ArrayType array) {
            TypeMirror part = array.getComponentType();
            return part instanceof ArrayType inner ? inner.getComponentType().getKind().isPrimitive() : isAllowed(part);
        }
        String name = type.toString();
        return type.getKind().isPrimitive() || type.getKind() == TypeKind.VOID || name.startsWith("SpillikinTable")
                || name.equals("java.lang.String") || name.equals("java.lang.StringBuilder")
                || name.startsWith("java.util.List<") || name.startsWith("java.util.ArrayList<");
    }

    private static boolean isAlwaysTrue(ExpressionTree condition) {
        ExpressionTree inside = condition;
        while (inside instanceof ParenthesizedTree parentheses) {
            inside = parentheses.getExpression();
        }
        return inside == null || (inside instanceof LiteralTree literal && Boolean.TRUE.equals(literal.getValue()));
    }

    private final class Reader extends TreePathScanner<Void, Void> {
        private String method = "";
        private boolean inConstructor = false;

        @Override
        public Void visitImport(ImportTree tree, Void none) {
            if (tree.isStatic() || !IMPORTS.contains(tree.getQualifiedIdentifier().toString())) {
                fault(13, tree, tree.toString().trim());
            }
            return null;
        }

        @Override
        public Void visitClass(ClassTree tree, Void none) {
            classes++;
            boolean outer = tree.getSimpleName().contentEquals("SpillikinTable");
            if (!outer && !(getCurrentPath().getParentPath().getLeaf() instanceof ClassTree)) {
                fault(2, tree, "a local or anonymous class");
            }
            int fields = 0;
            for (Tree member : tree.getMembers()) {
                if (member instanceof BlockTree) {
                    fault(5, member, "an initialiser block");
                }
                if (member instanceof VariableTree field) {
                    Set<Modifier> modifiers = field.getModifiers().getFlags();
                    fields += modifiers.contains(Modifier.STATIC) ? 0 : 1;
                    if (modifiers.contains(Modifier.STATIC) && !modifiers.contains(Modifier.FINAL)) {
                        fault(5, member, "a static field that is not final");
                    }
                }
            }
            if (fields > MOST_FIELDS) {
                fault(11, tree, fields + " fields");
            }
            return super.visitClass(tree, none);
        }

        @Override
        public Void visitMethod(MethodTree tree, Void none) {
            method = nameOf(trees.getElement(getCurrentPath()));
            inConstructor = tree.getReturnType() == null;
            calls.computeIfAbsent(method, name -> new TreeSet<>());
            if (tree.getParameters().size() > MOST_PARAMETERS) {
                fault(11, tree, tree.getParameters().size() + " parameters");
            }
            if (linesOf(tree) > MOST_LINES) {
                fault(11, tree, linesOf(tree) + " lines");
            }
            return super.visitMethod(tree, none);
        }

        @Override
        public Void visitVariable(VariableTree tree, Void none) {
            TypeMirror type = trees.getTypeMirror(getCurrentPath());
            if (!isAllowed(type)) {
                fault(3, tree, "a variable of " + type);
            }
            return super.visitVariable(tree, none);
        }

        @Override
        public Void visitMethodInvocation(MethodInvocationTree tree, Void none) {
            if (trees.getElement(getCurrentPath()) instanceof ExecutableElement called) {
                boolean implied = called.getSimpleName().contentEquals("<init>");
                if (isOwn(called)) {
                    calls.get(method).add(nameOf(called));
                } else if (!implied
                        && !LIBRARY.contains(called.getEnclosingElement().getSimpleName() + "." + called.getSimpleName())) {
                    fault(4, tree, "a call of " + nameOf(called));
                }
            }
            return super.visitMethodInvocation(tree, none);
        }

        @Override
        public Void visitNewClass(NewClassTree tree, Void none) {
            String name = tree.getIdentifier().toString();
            boolean thrown = getCurrentPath().getParentPath().getLeaf() instanceof ThrowTree && THROWN.contains(name);
            Element made = trees.getElement(getCurrentPath());
            if (made != null && !isOwn(made) && !thrown) {
                fault(6, tree, "new " + name);
            }
            return super.visitNewClass(tree, none);
        }

        @Override
        public Void visitThrow(ThrowTree tree, Void none) {
            boolean written = tree.getExpression() instanceof NewClassTree made
                    && made.getArguments().size() <= 1
                    && (made.getArguments().isEmpty() || made.getArguments().get(0) instanceof LiteralTree);
            if (!written || inConstructor) {
                fault(6, tree, tree.toString());
            }
            return super.visitThrow(tree, none);
        }

        @Override
        public Void visitTry(TryTree tree, Void none) {
            if (tree.getFinallyBlock() != null || !tree.getResources().isEmpty()) {
                fault(6, tree, "try with finally or resources");
            }
            return super.visitTry(tree, none);
        }

        @Override
        public Void visitCatch(CatchTree tree, Void none) {
            fault(6, tree, "a catch: the program needs none");
            return super.visitCatch(tree, none);
        }

        @Override
        public Void visitAssert(AssertTree tree, Void none) {
            fault(6, tree, "assert");
            return null;
        }

        @Override
        public Void visitSynchronized(SynchronizedTree tree, Void none) {
            fault(6, tree, "synchronized");
            return null;
        }

        @Override
        public Void visitLambdaExpression(LambdaExpressionTree tree, Void none) {
            fault(2, tree, "a lambda");
            return null;
        }

        @Override
        public Void visitMemberReference(MemberReferenceTree tree, Void none) {
            fault(2, tree, "a method reference");
            return null;
        }

        @Override
        public Void visitForLoop(ForLoopTree tree, Void none) {
            if (isAlwaysTrue(tree.getCondition())) {
                fault(9, tree, "a loop without an end");
            }
            return super.visitForLoop(tree, none);
        }

        @Override
        public Void visitWhileLoop(WhileLoopTree tree, Void none) {
            if (isAlwaysTrue(tree.getCondition())) {
                fault(9, tree, "a loop without an end");
            }
            return super.visitWhileLoop(tree, none);
        }

        @Override
        public Void visitDoWhileLoop(DoWhileLoopTree tree, Void none) {
            if (isAlwaysTrue(tree.getCondition())) {
                fault(9, tree, "a loop without an end");
            }
            return super.visitDoWhileLoop(tree, none);
        }

        @Override
        public Void visitBinary(BinaryTree tree, Void none) {
            TypeMirror type = trees.getTypeMirror(getCurrentPath());
            if (type != null && type.toString().equals("java.lang.String")) {
                fault(10, tree, "texts joined by +");
            }
            return super.visitBinary(tree, none);
        }
    }

    /** How many calls stand open at most once a method is called; a method that comes back to itself is a fault. */
    private int depthOf(String method, List<String> open) {
        if (open.contains(method)) {
            faults.add("rule 8: " + method + " comes back to itself");
            return 0;
        }
        open.add(method);
        int deepest = 0;
        for (String called : calls.getOrDefault(method, Set.of())) {
            deepest = Math.max(deepest, depthOf(called, open));
        }
        open.remove(open.size() - 1);
        return deepest + 1;
    }

    private int deepestCall() {
        int deepest = 0;
        for (String method : calls.keySet()) {
            int depth = depthOf(method, new ArrayList<>());
            deepest = Math.max(deepest, depth);
            if (depth > MOST_DEPTH) {
                faults.add("rule 11: " + depth + " calls deep: " + method);
            }
        }
        return deepest;
    }

    private void read() throws java.io.IOException {
        JavaCompiler compiler = ToolProvider.getSystemJavaCompiler();
        StandardJavaFileManager files = compiler.getStandardFileManager(null, null, null);
        JavacTask task = (JavacTask) compiler.getTask(null, files, null, List.of("--release", "17"), null,
                files.getJavaFileObjects(new File(SOURCE)));
        unit = task.parse().iterator().next();
        task.analyze();
        trees = Trees.instance(task);
        if (unit.getPackage() != null) {
            faults.add("a package line");
        }
        if (unit.getTypeDecls().size() != 1) {
            faults.add("rule 1: " + unit.getTypeDecls().size() + " classes in the file");
        }
        new Reader().scan(unit, null);
        if (classes > MOST_CLASSES) {
            faults.add("rule 11: " + classes + " classes");
        }
    }

    public static void main(String[] args) throws java.io.IOException {
        SpillikinTableLanguage language = new SpillikinTableLanguage();
        language.read();
        int deepest = language.deepestCall();
        for (String fault : language.faults) {
            System.out.println(fault);
        }
        System.out.println(language.classes + " classes, " + language.calls.size() + " methods, " + deepest
                + " calls deep, " + language.faults.size() + " faults");
        if (!language.faults.isEmpty() || language.calls.size() < 28) {
            System.exit(1);
        }
    }
}
