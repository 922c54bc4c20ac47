import com.sun.source.tree.AssertTree;
import com.sun.source.tree.BinaryTree;
import com.sun.source.tree.BlockTree;
import com.sun.source.tree.ClassTree;
import com.sun.source.tree.CompilationUnitTree;
import com.sun.source.tree.CompoundAssignmentTree;
import com.sun.source.tree.DoWhileLoopTree;
import com.sun.source.tree.ForLoopTree;
import com.sun.source.tree.ImportTree;
import com.sun.source.tree.LambdaExpressionTree;
import com.sun.source.tree.LiteralTree;
import com.sun.source.tree.MemberReferenceTree;
import com.sun.source.tree.MethodInvocationTree;
import com.sun.source.tree.MethodTree;
import com.sun.source.tree.NewArrayTree;
import com.sun.source.tree.NewClassTree;
import com.sun.source.tree.SynchronizedTree;
import com.sun.source.tree.ThrowTree;
import com.sun.source.tree.Tree;
import com.sun.source.tree.TryTree;
import com.sun.source.tree.VariableTree;
import com.sun.source.tree.WhileLoopTree;
import com.sun.source.util.JavacTask;
import com.sun.source.util.TreePath;
import com.sun.source.util.TreePathScanner;
import com.sun.source.util.Trees;
import java.nio.file.Files;
import java.nio.file.Path;
import java.util.ArrayDeque;
import java.util.ArrayList;
import java.util.Deque;
import java.util.HashSet;
import java.util.LinkedHashMap;
import java.util.List;
import java.util.Map;
import java.util.Set;
import java.util.TreeSet;
import javax.lang.model.element.Element;
import javax.lang.model.element.ElementKind;
import javax.lang.model.element.Modifier;
import javax.lang.model.type.ArrayType;
import javax.lang.model.type.TypeMirror;
import javax.tools.JavaCompiler;
import javax.tools.StandardJavaFileManager;
import javax.tools.ToolProvider;

/**
 * The class keeps to the rules of ../shared/LANGUAGE.md that its text shows. Where a rule leaves room
 * that the class does not need (catching, recursion, lists, objects made by calls), none is left here.
 */
public final class LanguageTest extends TreePathScanner<Void, Void> {
    private static final Path SOURCE = Path.of("src/main/java/SignMasons.java");
    private static final int MOST_PARAMETERS = 7;
    private static final int MOST_LINES = 60;
    private static final int MOST_CLASSES = 12;
    private static final int MOST_FIELDS = 20;
    private static final int DEEPEST = 8;
    private static final Set<String> THROWN = Set.of("IllegalStateException", "IllegalArgumentException",
            "IndexOutOfBoundsException", "ArithmeticException", "UnsupportedOperationException",
            "NoSuchElementException", "RuntimeException");
    private static final Set<String> TYPES = Set.of("int", "long", "short", "byte", "char", "boolean", "double",
            "float", "java.lang.String", "java.lang.StringBuilder");
    private static final Set<String> LIBRARY = Set.of("java.lang.Math.abs", "java.lang.Math.min",
            "java.lang.Math.max", "java.lang.Math.floorMod", "java.lang.Math.floorDiv",
            "java.lang.Integer.bitCount", "java.lang.Integer.compare", "java.lang.System.arraycopy",
            "java.util.Arrays.fill", "java.util.Arrays.copyOf", "java.util.Arrays.copyOfRange");
    private static final Set<String> OBJECTS_OWN = Set.of("equals", "hashCode", "toString");

    private final Trees trees;
    private final CompilationUnitTree unit;
    private final Set<String> own = new HashSet<>();
    /** Which methods of the class each of its methods calls. */
    private final Map<Element, Set<Element>> calls = new LinkedHashMap<>();
    private final Deque<MethodTree> methods = new ArrayDeque<>();
    private int classes = 0;
    private int wrong = 0;

    private LanguageTest(Trees trees, CompilationUnitTree unit) {
        this.trees = trees;
        this.unit = unit;
    }

    // ---- telling

    private void check(boolean fine, int rule, Tree where, String what) {
        if (!fine) {
            long at = trees.getSourcePositions().getStartPosition(unit, where);
            report(rule, "line " + unit.getLineMap().getLineNumber(at) + ": " + what);
        }
    }

    private void report(int rule, String what) {
        wrong++;
        System.out.println("rule " + rule + ", " + what);
    }

    private long line(long position) {
        return unit.getLineMap().getLineNumber(position);
    }

    private boolean isOwn(TypeMirror type) {
        return own.contains(type.toString());
    }

    private TypeMirror typeOf(Tree tree) {
        return trees.getTypeMirror(new TreePath(getCurrentPath(), tree));
    }

    private boolean inConstructor() {
        return !methods.isEmpty() && methods.peek().getReturnType() == null;
    }

    // ---- rules 1, 2 and 11: the file and its classes

    @Override
    public Void visitCompilationUnit(CompilationUnitTree file, Void none) {
        check(file.getPackage() == null, 1, file, "a package line");
        check(file.getTypeDecls().size() == 1, 1, file, "not just one class at the top");
        for (Tree type : file.getTypeDecls()) {
            gather(TreePath.getPath(file, type));
        }
        return super.visitCompilationUnit(file, none);
    }

    private void gather(TreePath path) {
        own.add(trees.getElement(path).asType().toString());
        for (Tree member : ((ClassTree) path.getLeaf()).getMembers()) {
            if (member instanceof ClassTree) {
                gather(new TreePath(path, member));
            }
        }
    }

    @Override
    public Void visitImport(ImportTree imported, Void none) {
        check(false, 4, imported, "an import");
        return super.visitImport(imported, none);
    }

    @Override
    public Void visitClass(ClassTree type, Void none) {
        classes++;
        Set<Modifier> modifiers = type.getModifiers().getFlags();
        if (getCurrentPath().getParentPath().getLeaf() instanceof CompilationUnitTree) {
            check(modifiers.equals(Set.of(Modifier.PUBLIC, Modifier.FINAL)), 1, type, "not public and final alone");
        } else {
            check(modifiers.contains(Modifier.STATIC) && !modifiers.contains(Modifier.PUBLIC)
                    && !modifiers.contains(Modifier.PROTECTED), 1, type, "a class inside that is open or not static");
        }
        int fields = 0;
        for (Tree member : type.getMembers()) {
            if (member instanceof VariableTree field && !isStatic(field)) {
                fields++;
            }
            check(!(member instanceof BlockTree), 5, member, "an initialiser block");
        }
        check(fields <= MOST_FIELDS, 11, type, fields + " fields");
        return super.visitClass(type, none);
    }

    private static boolean isStatic(VariableTree field) {
        return field.getModifiers().getFlags().contains(Modifier.STATIC);
    }

    @Override
    public Void visitMethod(MethodTree method, Void none) {
        Element element = trees.getElement(getCurrentPath());
        calls.put(element, new HashSet<>());
        check(method.getParameters().size() <= MOST_PARAMETERS, 11, method, "too many parameters");
        check(!OBJECTS_OWN.contains(method.getName().toString()), 6, method, "an equals, hashCode or toString");
        long lines = line(trees.getSourcePositions().getEndPosition(unit, method))
                - line(trees.getSourcePositions().getStartPosition(unit, method)) + 1;
        check(lines <= MOST_LINES, 11, method, lines + " lines");
        methods.push(method);
        super.visitMethod(method, none);
        methods.pop();
        return null;
    }

    // ---- rules 3, 5 and 10: types and texts

    @Override
    public Void visitVariable(VariableTree variable, Void none) {
        TypeMirror type = trees.getElement(getCurrentPath()).asType();
        check(isAllowed(type), 3, variable, "type " + type);
        if (trees.getElement(getCurrentPath()).getKind() == ElementKind.FIELD) {
            Set<Modifier> modifiers = variable.getModifiers().getFlags();
            check(modifiers.contains(Modifier.PRIVATE), 1, variable, "a field that is not private");
            check(!isStatic(variable) || modifiers.contains(Modifier.FINAL), 5, variable, "static, not final");
        }
        return super.visitVariable(variable, none);
    }

    private boolean isAllowed(TypeMirror type) {
        if (!(type instanceof ArrayType array)) {
            return TYPES.contains(type.toString()) || isOwn(type);
        }
        TypeMirror parts = array.getComponentType();
        if (parts instanceof ArrayType inner) {
            return inner.getComponentType().getKind().isPrimitive();
        }
        return isAllowed(parts);
    }

    @Override
    public Void visitBinary(BinaryTree binary, Void none) {
        check(!typeOf(binary.getLeftOperand()).toString().equals("java.lang.String")
                && !typeOf(binary.getRightOperand()).toString().equals("java.lang.String"), 10, binary,
                "texts joined or compared by " + binary.getKind());
        return super.visitBinary(binary, none);
    }

    @Override
    public Void visitCompoundAssignment(CompoundAssignmentTree changed, Void none) {
        check(typeOf(changed.getVariable()).getKind().isPrimitive(), 10, changed, "texts joined by +=");
        return super.visitCompoundAssignment(changed, none);
    }

    @Override
    public Void visitLiteral(LiteralTree literal, Void none) {
        if (literal.getValue() instanceof String text) {
            check(text.chars().allMatch(c -> c >= 1 && c <= 127), 4, literal, "a sign that is not 1 to 127");
        }
        return super.visitLiteral(literal, none);
    }

    // ---- rules 4, 6 and 12: calls, exceptions and what is made

    @Override
    public Void visitMethodInvocation(MethodInvocationTree call, Void none) {
        Element called = trees.getElement(new TreePath(getCurrentPath(), call.getMethodSelect()));
        TypeMirror owner = called.getEnclosingElement().asType();
        if (isOwn(owner)) {
            calls.get(trees.getElement(TreePath.getPath(unit, methods.peek()))).add(called);
        } else if (called.getKind() == ElementKind.METHOD) {
            String name = owner + "." + called.getSimpleName();
            check(LIBRARY.contains(name), 4, call, "a call of " + name);
            for (Tree argument : owner.toString().equals("java.lang.Math") ? call.getArguments() : List.<Tree>of()) {
                check(Set.of("int", "long").contains(typeOf(argument).toString()), 3, call, "Math on no int or long");
            }
        }
        return super.visitMethodInvocation(call, none);
    }

    @Override
    public Void visitThrow(ThrowTree thrown, Void none) {
        boolean made = thrown.getExpression() instanceof NewClassTree;
        check(made, 6, thrown, "a throw of what is not new");
        check(!inConstructor(), 6, thrown, "a throw in a constructor");
        if (made) {
            NewClassTree exception = (NewClassTree) thrown.getExpression();
            check(THROWN.contains(exception.getIdentifier().toString()), 6, thrown, "a throw of " + exception);
            check(exception.getArguments().size() <= 1
                    && exception.getArguments().stream().allMatch(LiteralTree.class::isInstance), 6, thrown,
                    "a text that is not written out");
        }
        return super.visitThrow(thrown, none);
    }

    @Override
    public Void visitNewClass(NewClassTree made, Void none) {
        boolean thrown = getCurrentPath().getParentPath().getLeaf() instanceof ThrowTree;
        check(thrown || inConstructor(), 12, made, "an object made outside of constructors");
        check(made.getClassBody() == null, 2, made, "an anonymous class");
        return super.visitNewClass(made, none);
    }

    @Override
    public Void visitNewArray(NewArrayTree made, Void none) {
        check(inConstructor(), 12, made, "an array made outside of constructors");
        return super.visitNewArray(made, none);
    }

    @Override
    public Void visitTry(TryTree attempt, Void none) {
        check(false, 6, attempt, "a try");
        return super.visitTry(attempt, none);
    }

    @Override
    public Void visitSynchronized(SynchronizedTree block, Void none) {
        check(false, 6, block, "synchronized");
        return super.visitSynchronized(block, none);
    }

    @Override
    public Void visitAssert(AssertTree claim, Void none) {
        check(false, 6, claim, "an assert");
        return super.visitAssert(claim, none);
    }

    @Override
    public Void visitLambdaExpression(LambdaExpressionTree lambda, Void none) {
        check(false, 2, lambda, "a lambda");
        return super.visitLambdaExpression(lambda, none);
    }

    @Override
    public Void visitMemberReference(MemberReferenceTree reference, Void none) {
        check(false, 2, reference, "a method reference");
        return super.visitMemberReference(reference, none);
    }

    // ---- rule 9: loops

    @Override
    public Void visitForLoop(ForLoopTree loop, Void none) {
        check(loop.getCondition() instanceof BinaryTree && loop.getUpdate().size() == 1, 9, loop,
                "a loop without a counter against a bound");
        return super.visitForLoop(loop, none);
    }

    @Override
    public Void visitWhileLoop(WhileLoopTree loop, Void none) {
        check(false, 9, loop, "a while, where a counter against a bound does");
        return super.visitWhileLoop(loop, none);
    }

    @Override
    public Void visitDoWhileLoop(DoWhileLoopTree loop, Void none) {
        check(false, 9, loop, "a do, where a counter against a bound does");
        return super.visitDoWhileLoop(loop, none);
    }

    // ---- rules 8 and 11: how deep calls go

    /** The deepest row of calls from this method on, itself counted; what calls itself again is told. */
    private int depth(Element method, List<Element> open) {
        if (open.contains(method)) {
            report(8, method + " calls itself");
            return 0;
        }
        open.add(method);
        int deepest = 0;
        for (Element called : calls.getOrDefault(method, Set.of())) {
            deepest = Math.max(deepest, depth(called, open));
        }
        open.remove(method);
        return deepest + 1;
    }

    private void checkAll() {
        scan(unit, null);
        if (classes > MOST_CLASSES) {
            report(11, classes + " classes");
        }
        Set<String> faceNames = new TreeSet<>();
        for (Element method : calls.keySet()) {
            int deep = depth(method, new ArrayList<>());
            if (deep > DEEPEST) {
                report(11, method + " goes " + deep + " calls deep");
            }
            if (method.getModifiers().contains(Modifier.PUBLIC)) {
                faceNames.add(method.getSimpleName().toString());
            }
        }
        faceNames.remove("<init>");
        for (Element method : calls.keySet()) {
            boolean open = method.getModifiers().contains(Modifier.PUBLIC);
            if (!open && faceNames.contains(method.getSimpleName().toString())) {
                report(1, "private " + method + " bears the name of a public method");
            }
            if (!open && !method.getModifiers().contains(Modifier.PRIVATE)) {
                report(1, method + " is neither public nor private");
            }
        }
    }

    public static void main(String[] args) throws Exception {
        JavaCompiler compiler = ToolProvider.getSystemJavaCompiler();
        int wrong = 0;
        try (StandardJavaFileManager files = compiler.getStandardFileManager(null, null, null)) {
            JavacTask task = (JavacTask) compiler.getTask(null, files, null, List.of("-proc:none"), null,
                    files.getJavaFileObjects(SOURCE));
            for (CompilationUnitTree unit : task.parse()) {
                task.analyze();
                LanguageTest test = new LanguageTest(Trees.instance(task), unit);
                test.checkAll();
                wrong += test.wrong;
            }
        }
        if (!Files.readString(SOURCE).chars().allMatch(c -> c <= 127)) {
            wrong++;
            System.out.println("rule 3, the file holds signs that are not 0 to 127");
        }
        System.out.println(wrong == 0 ? "the class keeps to the rules" : wrong + " breaches of the rules");
        if (wrong != 0) {
            System.exit(1);
        }
    }
}
