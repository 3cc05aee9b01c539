import com.sun.source.tree.ArrayTypeTree;
import com.sun.source.tree.AssertTree;
import com.sun.source.tree.BinaryTree;
import com.sun.source.tree.BlockTree;
import com.sun.source.tree.ClassTree;
import com.sun.source.tree.CompilationUnitTree;
import com.sun.source.tree.CompoundAssignmentTree;
import com.sun.source.tree.DoWhileLoopTree;
import com.sun.source.tree.ExpressionTree;
import com.sun.source.tree.ForLoopTree;
import com.sun.source.tree.ImportTree;
import com.sun.source.tree.LambdaExpressionTree;
import com.sun.source.tree.LiteralTree;
import com.sun.source.tree.MemberReferenceTree;
import com.sun.source.tree.MethodInvocationTree;
import com.sun.source.tree.MethodTree;
import com.sun.source.tree.NewArrayTree;
import com.sun.source.tree.NewClassTree;
import com.sun.source.tree.SynchronizedTree;
import com.sun.source.tree.ThrowTree;
import com.sun.source.tree.Tree;
import com.sun.source.tree.TryTree;
import com.sun.source.tree.VariableTree;
import com.sun.source.tree.WhileLoopTree;
import com.sun.source.util.JavacTask;
import com.sun.source.util.TreePath;
import com.sun.source.util.TreePathScanner;
import com.sun.source.util.Trees;
import java.io.IOException;
import java.nio.file.Path;
import java.util.Arrays;
import java.util.List;
import java.util.Map;
import java.util.Set;
import java.util.stream.Collectors;
import javax.lang.model.element.Element;
import javax.lang.model.element.ElementKind;
import javax.lang.model.element.ExecutableElement;
import javax.lang.model.element.Modifier;
import javax.lang.model.element.NestingKind;
import javax.lang.model.element.TypeElement;
import javax.lang.model.element.VariableElement;
import javax.lang.model.type.ArrayType;
import javax.lang.model.type.TypeKind;
import javax.lang.model.type.TypeMirror;
import javax.tools.JavaCompiler;
import javax.tools.StandardJavaFileManager;
import javax.tools.ToolProvider;

/**
 * The rules of ../shared/LANGUAGE.md that the compiler's own tree of the program can show. Where a rule allows more
 * than the program uses (while, try, objects made by calls), the test asks for what the program keeps to.
 */
final class LanguageTest extends TreePathScanner<Void, Void> {
    private static final Path PROGRAM = Path.of("src", "main", "java", "StoneQuarry.java");
    private static final int MOST_PARAMETERS = 7;
    private static final int MOST_LINES = 60;
    private static final int MOST_CLASSES = 12;
    private static final int MOST_FIELDS = 20;
    private static final int DEEPEST_CALL = 8;
    private static final Set<String> EXCEPTIONS = Set.of("IllegalStateException", "IllegalArgumentException",
        "IndexOutOfBoundsException", "ArithmeticException", "UnsupportedOperationException",
        "NoSuchElementException", "RuntimeException");
    private static final Set<String> NUMBER_CALLS =
        Set.of("compare", "max", "min", "abs", "bitCount", "floorDiv", "floorMod");
    private static final Set<String> LIST_CALLS = Set.of("add", "get", "set", "remove", "size", "isEmpty", "clear");
    private static final Map<String, Set<String>> LIBRARY = Map.of(
        "java.lang.String",
        Set.of("length", "charAt", "isEmpty", "equals", "indexOf", "substring", "toCharArray"),
        "java.lang.StringBuilder",
        Set.of("append", "charAt", "setCharAt", "setLength", "deleteCharAt", "reverse", "length", "toString"),
        "java.util.ArrayList", LIST_CALLS,
        "java.util.List", LIST_CALLS,
        "java.lang.Math", NUMBER_CALLS,
        "java.lang.Integer", NUMBER_CALLS,
        "java.lang.Long", NUMBER_CALLS,
        "java.lang.System", Set.of("arraycopy"),
        "java.util.Arrays", Set.of("copyOf", "copyOfRange", "fill"));
    private static final Set<String> LIBRARY_TYPES = Set.of("java.lang.String", "java.lang.StringBuilder",
        "java.lang.Integer", "java.util.ArrayList", "java.util.List");
    private static final Set<String> FACE = Arrays.stream(StoneQuarry.class.getDeclaredMethods())
        .filter(method -> java.lang.reflect.Modifier.isPublic(method.getModifiers()))
        .map(java.lang.reflect.Method::getName).collect(Collectors.toSet());
    private static final Set<TypeKind> CONSTANTS =
        Set.of(TypeKind.INT, TypeKind.LONG, TypeKind.BOOLEAN, TypeKind.CHAR);

    private final Trees trees;
    private final CallGraph calls = new CallGraph();
    private int classes;

    private LanguageTest(Trees trees) {
        this.trees = trees;
    }

    public static void main(String[] args) throws IOException {
        JavaCompiler compiler = ToolProvider.getSystemJavaCompiler();
        try (StandardJavaFileManager files = compiler.getStandardFileManager(null, null, null)) {
            JavacTask task = (JavacTask) compiler.getTask(
                null, files, null, List.of("-proc:none"), null, files.getJavaFileObjects(PROGRAM));
            LanguageTest test = new LanguageTest(Trees.instance(task));
            Iterable<? extends CompilationUnitTree> units = task.parse();
            task.analyze();
            test.scan(units, null);
            test.endsOfAll();
        }
        Check.end();
    }

    private void endsOfAll() {
        if (classes > MOST_CLASSES) {
            Check.report("rule 11: " + classes + " classes");
        }
        if (calls.deepest() > DEEPEST_CALL) {
            Check.report("rule 11: calls go " + calls.deepest() + " deep: " + calls.deepestWay());
        }
        for (String circle : calls.circles()) {
            Check.report("rule 8: calls go round in a circle: " + circle);
        }
    }

    private void rule(int number, boolean kept, String otherwise) {
        if (!kept) {
            Check.report("line " + lineOf(getCurrentPath().getLeaf()) + ", rule " + number + ": " + otherwise);
        }
    }

    private long lineOf(Tree tree) {
        CompilationUnitTree unit = getCurrentPath().getCompilationUnit();
        return unit.getLineMap().getLineNumber(trees.getSourcePositions().getStartPosition(unit, tree));
    }

    private Element elementOf(Tree tree) {
        return trees.getElement(new TreePath(getCurrentPath(), tree));
    }

    private TypeMirror typeOf(Tree tree) {
        return trees.getTypeMirror(new TreePath(getCurrentPath(), tree));
    }

    // The file, classes and members.

    @Override
    public Void visitCompilationUnit(CompilationUnitTree unit, Void none) {
        rule(1, unit.getPackageName() == null && unit.getTypeDecls().size() == 1, "one class without a package");
        return super.visitCompilationUnit(unit, none);
    }

    @Override
    public Void visitImport(ImportTree imported, Void none) {
        String name = imported.getQualifiedIdentifier().toString();
        boolean known = LIBRARY.containsKey(name) || name.startsWith("java.util.")
            && EXCEPTIONS.contains(name.substring("java.util.".length()));
        rule(4, known && !imported.isStatic(), "imports " + name);
        return null;
    }

    @Override
    public Void visitClass(ClassTree tree, Void none) {
        classes++;
        TypeElement type = (TypeElement) trees.getElement(getCurrentPath());
        boolean inside = type.getNestingKind() != NestingKind.TOP_LEVEL;
        rule(1, !inside || !type.getModifiers().contains(Modifier.PUBLIC)
            && !type.getModifiers().contains(Modifier.PROTECTED), "a class inside is public or protected");
        rule(2, !inside || type.getModifiers().contains(Modifier.STATIC), "a class inside is not static");
        rule(6, tree.getExtendsClause() == null, "extends " + tree.getExtendsClause());
        long fields = type.getEnclosedElements().stream().filter(member -> member.getKind() == ElementKind.FIELD
            && !member.getModifiers().contains(Modifier.STATIC)).count();
        rule(11, fields <= MOST_FIELDS, fields + " fields");
        return super.visitClass(tree, none);
    }

    @Override
    public Void visitBlock(BlockTree block, Void none) {
        boolean ofClass = getCurrentPath().getParentPath().getLeaf() instanceof ClassTree;
        rule(5, !ofClass, "an initialiser block");
        return super.visitBlock(block, none);
    }

    @Override
    public Void visitMethod(MethodTree method, Void none) {
        ExecutableElement element = (ExecutableElement) trees.getElement(getCurrentPath());
        rule(1, !element.getModifiers().contains(Modifier.PRIVATE) || !FACE.contains(method.getName().toString()),
            "a private method is named " + method.getName());
        rule(11, method.getParameters().size() <= MOST_PARAMETERS, method.getParameters().size() + " parameters");
        CompilationUnitTree unit = getCurrentPath().getCompilationUnit();
        long end = trees.getSourcePositions().getEndPosition(unit, method);
        long lines = end < 0 ? 1 : unit.getLineMap().getLineNumber(end) - lineOf(method) + 1;
        rule(11, lines <= MOST_LINES, method.getName() + " has " + lines + " lines");
        rule(3, element.getReturnType().getKind() == TypeKind.VOID || mayStand(element.getReturnType()),
            "answers " + element.getReturnType());
        rule(6, !Set.of("equals", "hashCode", "toString").contains(method.getName().toString()),
            "has a method " + method.getName());
        return super.visitMethod(method, none);
    }

    @Override
    public Void visitVariable(VariableTree variable, Void none) {
        Element element = trees.getElement(getCurrentPath());
        rule(3, mayStand(element.asType()), "a variable of type " + element.asType());
        if (element.getKind() == ElementKind.FIELD && element.getModifiers().contains(Modifier.STATIC)) {
            rule(5, element.getModifiers().contains(Modifier.FINAL) && isConstant(variable, element.asType()),
                variable.getName() + " is no constant");
        }
        if (element.getKind() == ElementKind.FIELD && element.getEnclosingElement().getKind() == ElementKind.ENUM
            && !element.getModifiers().contains(Modifier.STATIC)) {
            rule(2, Set.of("int", "long", "boolean", "java.lang.String").contains(element.asType().toString()),
                "an enum's field of type " + element.asType());
        }
        return super.visitVariable(variable, none);
    }

    private boolean isConstant(VariableTree variable, TypeMirror type) {
        if (CONSTANTS.contains(type.getKind()) || type.toString().equals("java.lang.String")) {
            return ((VariableElement) trees.getElement(getCurrentPath())).getConstantValue() != null;
        }
        if (type.getKind() != TypeKind.ARRAY) {
            return false;
        }
        boolean ofEnum = variable.getInitializer().toString().endsWith(".values()");
        return ofEnum || variable.getInitializer() instanceof NewArrayTree row && row.getInitializers() != null
            && Set.of("int[]", "long[]", "char[]", "byte[]").contains(type.toString());
    }

    private static boolean mayStand(TypeMirror type) {
        if (type.getKind() == TypeKind.ARRAY) {
            TypeMirror part = ((ArrayType) type).getComponentType();
            boolean ofRows = part.getKind() == TypeKind.ARRAY;
            return ofRows ? ((ArrayType) part).getComponentType().getKind().isPrimitive() : mayStand(part);
        }
        String name = type.toString().replaceFirst("<.*", "");
        return type.getKind().isPrimitive() || LIBRARY_TYPES.contains(name) || isOwn(name);
    }

    private static boolean isOwn(String type) {
        return type.equals("StoneQuarry") || type.startsWith("StoneQuarry.");
    }

    // Calls, and what they make.

    @Override
    public Void visitMethodInvocation(MethodInvocationTree call, Void none) {
        ExecutableElement called = (ExecutableElement) elementOf(call.getMethodSelect());
        boolean isSuper = called.getKind() == ElementKind.CONSTRUCTOR;
        String type = called.getEnclosingElement().toString();
        if (isOwn(type)) {
            follow(called);
        } else if (!isSuper) {
            String name = called.getSimpleName().toString();
            rule(4, LIBRARY.getOrDefault(type, Set.of()).contains(name), "calls " + type + "." + name);
            rule(4, !type.equals("java.lang.Math") && !type.equals("java.util.Arrays") || overNumbers(called),
                name + " over other values than numbers");
        }
        return super.visitMethodInvocation(call, none);
    }

    private static boolean overNumbers(ExecutableElement called) {
        boolean ofArrays = called.getEnclosingElement().toString().equals("java.util.Arrays");
        TypeMirror first = called.getParameters().get(0).asType();
        TypeKind kind = ofArrays ? ((ArrayType) first).getComponentType().getKind() : first.getKind();
        return ofArrays ? kind.isPrimitive() && kind != TypeKind.BOOLEAN
            : kind == TypeKind.INT || kind == TypeKind.LONG;
    }

    private void follow(ExecutableElement called) {
        String caller = callerName();
        String name = nameOf(called);
        if (caller.equals(name)) {
            rule(8, called.getModifiers().containsAll(Set.of(Modifier.PRIVATE, Modifier.STATIC)),
                called.getSimpleName() + " calls itself, and is not private and static");
        } else {
            calls.add(caller, name);
        }
    }

    private static String nameOf(Element method) {
        return method.getEnclosingElement() + "." + method;
    }

    /** The method that the scan is in; what a field begins with is made by the constructor, or as a constant. */
    private String callerName() {
        Element method = enclosingMethod();
        if (method != null) {
            return nameOf(method);
        }
        Element type = enclosing(ClassTree.class);
        Element field = enclosing(VariableTree.class);
        boolean isConstant = field != null && field.getModifiers().contains(Modifier.STATIC);
        return isConstant ? type + ".constants" : type.getEnclosedElements().stream()
            .filter(member -> member.getKind() == ElementKind.CONSTRUCTOR).map(LanguageTest::nameOf)
            .findFirst().orElseThrow();
    }

    private Element enclosingMethod() {
        return enclosing(MethodTree.class);
    }

    private Element enclosing(Class<? extends Tree> kind) {
        TreePath path = getCurrentPath();
        while (path != null && !kind.isInstance(path.getLeaf())) {
            path = path.getParentPath();
        }
        return path == null ? null : trees.getElement(path);
    }

    private boolean inConstructor() {
        Element method = enclosingMethod();
        return method == null || method.getKind() == ElementKind.CONSTRUCTOR;
    }

    @Override
    public Void visitNewClass(NewClassTree made, Void none) {
        Element constructor = trees.getElement(getCurrentPath());
        Element type = constructor.getEnclosingElement();
        boolean thrown = getCurrentPath().getParentPath().getLeaf() instanceof ThrowTree;
        rule(4, thrown || isOwn(type.toString()) || LIBRARY_TYPES.contains(type.toString()), "makes a " + type);
        rule(12, thrown || inConstructor(), "a call makes a " + type);
        if (isOwn(type.toString())) {
            calls.add(callerName(), nameOf(constructor));
        }
        return super.visitNewClass(made, none);
    }

    @Override
    public Void visitNewArray(NewArrayTree made, Void none) {
        rule(12, inConstructor(), "a call makes a row");
        return super.visitNewArray(made, none);
    }

    // Exceptions.

    @Override
    public Void visitThrow(ThrowTree thrown, Void none) {
        rule(6, !inConstructor(), "a constructor throws");
        boolean made = thrown.getExpression() instanceof NewClassTree;
        rule(6, made, "throws what is not made there");
        if (made) {
            NewClassTree exception = (NewClassTree) thrown.getExpression();
            rule(6, EXCEPTIONS.contains(exception.getIdentifier().toString()), "throws " + exception.getIdentifier());
            List<? extends ExpressionTree> words = exception.getArguments();
            rule(6, words.isEmpty() || words.size() == 1 && words.get(0) instanceof LiteralTree,
                "throws with more than a written text");
        }
        return super.visitThrow(thrown, none);
    }

    @Override
    public Void visitTry(TryTree tried, Void none) {
        rule(6, false, "the program needs no try");
        return super.visitTry(tried, none);
    }

    @Override
    public Void visitAssert(AssertTree asserted, Void none) {
        rule(6, false, "an assert");
        return super.visitAssert(asserted, none);
    }

    @Override
    public Void visitSynchronized(SynchronizedTree block, Void none) {
        rule(6, false, "a synchronized block");
        return super.visitSynchronized(block, none);
    }

    // Loops and expressions.

    @Override
    public Void visitForLoop(ForLoopTree loop, Void none) {
        rule(9, loop.getInitializer().size() == 1 && loop.getCondition() != null && loop.getUpdate().size() == 1
            && loop.getCondition().toString().contains(counterOf(loop) + " <")
            && loop.getUpdate().get(0).toString().equals(counterOf(loop) + "++;"), "a loop without a counter's bound");
        return super.visitForLoop(loop, none);
    }

    private static String counterOf(ForLoopTree loop) {
        return loop.getInitializer().get(0) instanceof VariableTree counter ? counter.getName().toString() : "";
    }

    @Override
    public Void visitWhileLoop(WhileLoopTree loop, Void none) {
        rule(9, false, "a while whose end this test cannot see");
        return super.visitWhileLoop(loop, none);
    }

    @Override
    public Void visitDoWhileLoop(DoWhileLoopTree loop, Void none) {
        rule(9, false, "a do whose end this test cannot see");
        return super.visitDoWhileLoop(loop, none);
    }

    @Override
    public Void visitLambdaExpression(LambdaExpressionTree lambda, Void none) {
        rule(2, false, "a lambda");
        return super.visitLambdaExpression(lambda, none);
    }

    @Override
    public Void visitMemberReference(MemberReferenceTree reference, Void none) {
        rule(2, false, "a method reference");
        return super.visitMemberReference(reference, none);
    }

    @Override
    public Void visitBinary(BinaryTree binary, Void none) {
        boolean compares = binary.getKind() == Tree.Kind.EQUAL_TO || binary.getKind() == Tree.Kind.NOT_EQUAL_TO;
        rule(6, !compares || !isText(binary.getLeftOperand()) || !isText(binary.getRightOperand()),
            "compares two texts or two Integers");
        boolean joins = binary.getKind() == Tree.Kind.PLUS
            && (isText(binary.getLeftOperand()) || isText(binary.getRightOperand()));
        rule(10, !joins, "joins texts by +");
        return super.visitBinary(binary, none);
    }

    @Override
    public Void visitCompoundAssignment(CompoundAssignmentTree assignment, Void none) {
        rule(10, !isText(assignment.getVariable()), "joins texts by +=");
        return super.visitCompoundAssignment(assignment, none);
    }

    @Override
    public Void visitLiteral(LiteralTree literal, Void none) {
        boolean isWritten = literal.getKind() == Tree.Kind.STRING_LITERAL
            || literal.getKind() == Tree.Kind.CHAR_LITERAL;
        rule(4, !isWritten || literal.getValue().toString().chars().allMatch(sign -> sign >= 1 && sign <= 127),
            "a sign beyond 1 to 127");
        return super.visitLiteral(literal, none);
    }

    private boolean isText(ExpressionTree value) {
        return Set.of("java.lang.String", "java.lang.Integer").contains(String.valueOf(typeOf(value)));
    }

    @Override
    public Void visitArrayType(ArrayTypeTree type, Void none) {
        rule(3, mayStand(typeOfHere()), "a row of type " + type);
        return super.visitArrayType(type, none);
    }

    private TypeMirror typeOfHere() {
        return trees.getTypeMirror(getCurrentPath());
    }
}
