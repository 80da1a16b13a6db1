import com.sun.source.tree.AssertTree;
import com.sun.source.tree.BinaryTree;
import com.sun.source.tree.BlockTree;
import com.sun.source.tree.ClassTree;
import com.sun.source.tree.CompilationUnitTree;
import com.sun.source.tree.CompoundAssignmentTree;
import com.sun.source.tree.DoWhileLoopTree;
import com.sun.source.tree.EnhancedForLoopTree;
import com.sun.source.tree.ForLoopTree;
import com.sun.source.tree.LambdaExpressionTree;
import com.sun.source.tree.LiteralTree;
import com.sun.source.tree.MemberReferenceTree;
import com.sun.source.tree.MethodInvocationTree;
import com.sun.source.tree.MethodTree;
import com.sun.source.tree.NewArrayTree;
import com.sun.source.tree.NewClassTree;
import com.sun.source.tree.SynchronizedTree;
import com.sun.source.tree.ThrowTree;
import com.sun.source.tree.Tree;
import com.sun.source.tree.TryTree;
import com.sun.source.tree.TypeCastTree;
import com.sun.source.tree.VariableTree;
import com.sun.source.tree.WhileLoopTree;
import com.sun.source.util.JavacTask;
import com.sun.source.util.TreePath;
import com.sun.source.util.TreePathScanner;
import com.sun.source.util.Trees;
import java.io.IOException;
import java.nio.file.Path;
import java.util.HashMap;
import java.util.LinkedHashSet;
import java.util.List;
import java.util.Map;
import java.util.Set;
import javax.lang.model.element.Element;
import javax.lang.model.element.ElementKind;
import javax.lang.model.element.ExecutableElement;
import javax.lang.model.element.Modifier;
import javax.lang.model.element.VariableElement;
import javax.lang.model.type.ArrayType;
import javax.lang.model.type.TypeKind;
import javax.lang.model.type.TypeMirror;
import javax.tools.JavaCompiler;
import javax.tools.StandardJavaFileManager;
import javax.tools.ToolProvider;

/**
 * Reads SnippetBank.java and holds it against those rules of LANGUAGE.md that can be seen by
 * reading. Some are held more narrowly than they are written, as the program needs no more: no try,
 * no while, no recursion, no library but Math and Integer, nothing made but by constructors.
 */
public final class LanguageTest extends TreePathScanner<Void, Void> {
    private static final Path PROGRAM = Path.of("src", "main", "java", "SnippetBank.java");
    private static final Set<String> THROWN = Set.of("IllegalStateException", "IllegalArgumentException",
            "IndexOutOfBoundsException", "ArithmeticException", "UnsupportedOperationException",
            "NoSuchElementException", "RuntimeException");
    private static final Set<String> NOT_DECLARED = Set.of("equals", "hashCode", "toString", "finalize");
    private static final Set<Tree.Kind> OF_DOUBLES = Set.of(Tree.Kind.PLUS, Tree.Kind.MINUS, Tree.Kind.MULTIPLY,
            Tree.Kind.DIVIDE, Tree.Kind.LESS_THAN, Tree.Kind.LESS_THAN_EQUAL, Tree.Kind.GREATER_THAN,
            Tree.Kind.GREATER_THAN_EQUAL, Tree.Kind.EQUAL_TO, Tree.Kind.NOT_EQUAL_TO);

    private static final Checks checks = new Checks();

    private final Trees trees;
    private final Map<ExecutableElement, Set<ExecutableElement>> calls = new HashMap<>();
    private CompilationUnitTree unit;
    private int classes = 0;

    private LanguageTest(Trees trees) {
        this.trees = trees;
    }

    private String place(Tree tree) {
        long start = trees.getSourcePositions().getStartPosition(unit, tree);
        return ", line " + (start < 0 ? "?" : unit.getLineMap().getLineNumber(start));
    }

    private void rule(int number, String what, Tree tree, boolean isKept) {
        checks.due("rule " + number + ", " + what + place(tree), isKept, true);
    }

    private TypeMirror typeOf(Tree tree) {
        return trees.getTypeMirror(new TreePath(getCurrentPath(), tree));
    }

    private static boolean isText(TypeMirror type) {
        return type != null && type.toString().equals("java.lang.String");
    }

    private static boolean isBroken(TypeMirror type) {
        return type != null && (type.getKind() == TypeKind.DOUBLE || type.getKind() == TypeKind.FLOAT);
    }

    private static boolean isWhole(TypeMirror type) {
        return type.getKind() == TypeKind.INT || type.getKind() == TypeKind.LONG;
    }

    /** The method in whose body this stands, or null. */
    private MethodTree methodAround() {
        for (Tree tree : getCurrentPath()) {
            if (tree instanceof MethodTree) {
                return (MethodTree) tree;
            }
            if (tree instanceof ClassTree) {
                return null;
            }
        }
        return null;
    }

    private boolean isMadeOnce() {
        MethodTree around = methodAround();
        return around == null || around.getReturnType() == null;
    }

    @Override
    public Void visitCompilationUnit(CompilationUnitTree tree, Void none) {
        unit = tree;
        rule(1, "no package", tree, tree.getPackage() == null);
        rule(4, "no imports", tree, tree.getImports().isEmpty());
        rule(1, "one class", tree, tree.getTypeDecls().size() == 1);
        return super.visitCompilationUnit(tree, none);
    }

    @Override
    public Void visitClass(ClassTree tree, Void none) {
        classes++;
        Tree around = getCurrentPath().getParentPath().getLeaf();
        boolean isInside = around instanceof ClassTree;
        rule(2, "no local class", tree, isInside || around instanceof CompilationUnitTree);
        rule(1, "static inside", tree, !isInside || tree.getModifiers().getFlags().contains(Modifier.STATIC));
        int fields = 0;
        for (Tree member : tree.getMembers()) {
            boolean isConstant = member instanceof VariableTree
                    && ((VariableTree) member).getModifiers().getFlags().contains(Modifier.STATIC);
            fields += member instanceof VariableTree && !isConstant ? 1 : 0;
            rule(5, "no static initialiser", member, !(member instanceof BlockTree));
        }
        rule(11, "some twenty fields", tree, fields <= 20);
        return super.visitClass(tree, none);
    }

    @Override
    public Void visitVariable(VariableTree tree, Void none) {
        TypeMirror type = trees.getTypeMirror(getCurrentPath());
        if (type.getKind() == TypeKind.ARRAY && ((ArrayType) type).getComponentType().getKind() == TypeKind.ARRAY) {
            TypeMirror inner = ((ArrayType) ((ArrayType) type).getComponentType()).getComponentType();
            rule(3, "two dimensions of numbers at most", tree, inner.getKind().isPrimitive());
        }
        Set<Modifier> flags = tree.getModifiers().getFlags();
        rule(5, "static fields are final", tree, !flags.contains(Modifier.STATIC) || flags.contains(Modifier.FINAL));
        return super.visitVariable(tree, none);
    }

    @Override
    public Void visitMethod(MethodTree tree, Void none) {
        rule(11, "seven parameters", tree, tree.getParameters().size() <= 7);
        rule(6, "no method of each object", tree, !NOT_DECLARED.contains(tree.getName().toString()));
        long first = trees.getSourcePositions().getStartPosition(unit, tree);
        long last = trees.getSourcePositions().getEndPosition(unit, tree);
        if (first >= 0 && last > first) {
            long lines = unit.getLineMap().getLineNumber(last) - unit.getLineMap().getLineNumber(first) + 1;
            rule(11, "a short method", tree, lines <= 60);
        }
        calls.put((ExecutableElement) trees.getElement(getCurrentPath()), new LinkedHashSet<>());
        return super.visitMethod(tree, none);
    }

    @Override
    public Void visitMethodInvocation(MethodInvocationTree tree, Void none) {
        ExecutableElement called = (ExecutableElement) trees.getElement(getCurrentPath());
        MethodTree around = methodAround();
        String owner = called.getEnclosingElement().toString();
        if (owner.equals("SnippetBank") || owner.startsWith("SnippetBank.")) {
            rule(12, "no field's initialiser calls", tree, around != null);
            if (around != null) {
                calls.get(elementOf(around)).add(called);
            }
        } else if (called.getKind() != ElementKind.CONSTRUCTOR) {
            rule(4, "of the library: " + owner + "." + called, tree, isOfTheLibrary(owner, called));
        }
        return super.visitMethodInvocation(tree, none);
    }

    private ExecutableElement elementOf(MethodTree method) {
        return (ExecutableElement) trees.getElement(trees.getPath(unit, method));
    }

    private static boolean isOfTheLibrary(String owner, ExecutableElement called) {
        boolean isKept = owner.equals("java.lang.Math") || owner.equals("java.lang.Integer");
        isKept = isKept && called.getModifiers().contains(Modifier.STATIC);
        for (VariableElement parameter : called.getParameters()) {
            isKept = isKept && isWhole(parameter.asType());
        }
        return isKept && !called.getSimpleName().toString().endsWith("Exact");
    }

    @Override
    public Void visitNewClass(NewClassTree tree, Void none) {
        boolean isThrown = getCurrentPath().getParentPath().getLeaf() instanceof ThrowTree;
        String made = tree.getIdentifier().toString();
        rule(6, "an exception is thrown where it is made", tree, isThrown || !THROWN.contains(made));
        rule(12, "made by a constructor", tree, isThrown || isMadeOnce());
        Element type = trees.getElement(new TreePath(getCurrentPath(), tree.getIdentifier()));
        boolean isOwn = type != null && type.toString().startsWith("SnippetBank.");
        rule(4, "of its own classes", tree, isThrown || isOwn && tree.getClassBody() == null);
        return super.visitNewClass(tree, none);
    }

    @Override
    public Void visitNewArray(NewArrayTree tree, Void none) {
        rule(12, "made by a constructor", tree, isMadeOnce());
        for (Tree length : tree.getDimensions()) {
            Element constant = trees.getElement(new TreePath(getCurrentPath(), length));
            boolean isConstant = constant instanceof VariableElement
                    && ((VariableElement) constant).getConstantValue() instanceof Integer;
            rule(7, "a length is a constant", tree, isConstant);
        }
        return super.visitNewArray(tree, none);
    }

    @Override
    public Void visitThrow(ThrowTree tree, Void none) {
        MethodTree around = methodAround();
        rule(6, "no throw in a constructor", tree, around != null && around.getReturnType() != null);
        boolean isNew = tree.getExpression() instanceof NewClassTree;
        rule(6, "throw new", tree, isNew);
        if (isNew) {
            NewClassTree made = (NewClassTree) tree.getExpression();
            List<?> arguments = made.getArguments();
            rule(6, "one of the exceptions", tree, THROWN.contains(made.getIdentifier().toString()));
            rule(6, "a written text", tree, arguments.isEmpty()
                    || arguments.size() == 1 && arguments.get(0) instanceof LiteralTree);
        }
        return super.visitThrow(tree, none);
    }

    @Override
    public Void visitForLoop(ForLoopTree tree, Void none) {
        boolean hasEnd = tree.getCondition() instanceof BinaryTree && tree.getUpdate().size() == 1
                && tree.getInitializer().size() == 1 && tree.getInitializer().get(0) instanceof VariableTree;
        rule(9, "a counter against a bound", tree, hasEnd);
        if (hasEnd) {
            String counter = ((VariableTree) tree.getInitializer().get(0)).getName().toString();
            rule(9, "the counter goes up", tree, tree.getUpdate().get(0).getExpression().toString().equals(counter + "++"));
            Tree.Kind kind = tree.getCondition().getKind();
            rule(9, "up to the bound", tree, kind == Tree.Kind.LESS_THAN || kind == Tree.Kind.LESS_THAN_EQUAL);
            String body = tree.getStatement().toString();
            boolean isLeftAlone = !body.matches("(?s).*\\b" + counter + "( [-+*/&|]?= |\\+\\+|--).*");
            rule(9, "the counter is left alone", tree, isLeftAlone);
        }
        return super.visitForLoop(tree, none);
    }

    @Override
    public Void visitEnhancedForLoop(EnhancedForLoopTree tree, Void none) {
        rule(9, "for over an array", tree, typeOf(tree.getExpression()).getKind() == TypeKind.ARRAY);
        return super.visitEnhancedForLoop(tree, none);
    }

    @Override
    public Void visitWhileLoop(WhileLoopTree tree, Void none) {
        rule(9, "no while", tree, false);
        return super.visitWhileLoop(tree, none);
    }

    @Override
    public Void visitDoWhileLoop(DoWhileLoopTree tree, Void none) {
        rule(9, "no do", tree, false);
        return super.visitDoWhileLoop(tree, none);
    }

    @Override
    public Void visitTry(TryTree tree, Void none) {
        rule(6, "no try", tree, false);
        return super.visitTry(tree, none);
    }

    @Override
    public Void visitSynchronized(SynchronizedTree tree, Void none) {
        rule(6, "no synchronized", tree, false);
        return super.visitSynchronized(tree, none);
    }

    @Override
    public Void visitAssert(AssertTree tree, Void none) {
        rule(6, "no assert", tree, false);
        return super.visitAssert(tree, none);
    }

    @Override
    public Void visitLambdaExpression(LambdaExpressionTree tree, Void none) {
        rule(2, "no lambda", tree, false);
        return super.visitLambdaExpression(tree, none);
    }

    @Override
    public Void visitMemberReference(MemberReferenceTree tree, Void none) {
        rule(2, "no method reference", tree, false);
        return super.visitMemberReference(tree, none);
    }

    @Override
    public Void visitTypeCast(TypeCastTree tree, Void none) {
        rule(6, "a cast of numbers", tree, typeOf(tree.getType()).getKind().isPrimitive());
        return super.visitTypeCast(tree, none);
    }

    @Override
    public Void visitBinary(BinaryTree tree, Void none) {
        TypeMirror left = typeOf(tree.getLeftOperand());
        TypeMirror right = typeOf(tree.getRightOperand());
        rule(10, "no texts are joined or compared", tree, !isText(left) && !isText(right));
        boolean isOfDoubles = isBroken(left) || isBroken(right);
        rule(3, "of doubles", tree, !isOfDoubles || OF_DOUBLES.contains(tree.getKind()));
        return super.visitBinary(tree, none);
    }

    @Override
    public Void visitCompoundAssignment(CompoundAssignmentTree tree, Void none) {
        rule(10, "no texts are joined", tree, !isText(typeOf(tree.getVariable())));
        return super.visitCompoundAssignment(tree, none);
    }

    @Override
    public Void visitLiteral(LiteralTree tree, Void none) {
        if (tree.getValue() instanceof String) {
            rule(4, "signs 1 to 127", tree, ((String) tree.getValue()).chars().allMatch(sign -> sign >= 1 && sign <= 127));
        }
        return super.visitLiteral(tree, none);
    }

    /** How many calls stand open at once in this one, itself among them. */
    private int depthOf(ExecutableElement method, Set<ExecutableElement> open) {
        checks.due("rule 8, no recursion: " + method, open.contains(method), false);
        if (open.contains(method)) {
            return 0;
        }
        open.add(method);
        int deepest = 0;
        for (ExecutableElement called : calls.getOrDefault(method, Set.of())) {
            deepest = Math.max(deepest, depthOf(called, open));
        }
        open.remove(method);
        return deepest + 1;
    }

    private void whole() {
        int deepest = 0;
        for (ExecutableElement method : calls.keySet()) {
            deepest = Math.max(deepest, depthOf(method, new LinkedHashSet<>()));
        }
        checks.due("rule 11, calls go " + deepest + " deep, eight at most", deepest <= 8, true);
        checks.due("rule 11, some twelve classes, not " + classes, classes <= 12, true);
        checks.due("the program was read", calls.size() > 29, true);
        System.out.println(calls.size() + " methods in " + classes + " classes, calls " + deepest + " deep");
    }

    public static void main(String[] args) throws IOException {
        JavaCompiler compiler = ToolProvider.getSystemJavaCompiler();
        try (StandardJavaFileManager files = compiler.getStandardFileManager(null, null, null)) {
            JavacTask task = (JavacTask) compiler.getTask(null, files, null, List.of("-proc:none"), null,
                    files.getJavaFileObjects(PROGRAM));
            Iterable<? extends CompilationUnitTree> units = task.parse();
            task.analyze();
            LanguageTest test = new LanguageTest(Trees.instance(task));
            for (CompilationUnitTree unit : units) {
                test.scan(unit, null);
            }
            test.whole();
        }
        checks.end();
    }
}
