import com.sun.source.tree.AssertTree;
import com.sun.source.tree.BinaryTree;
import com.sun.source.tree.BlockTree;
import com.sun.source.tree.CatchTree;
import com.sun.source.tree.ClassTree;
import com.sun.source.tree.CompilationUnitTree;
import com.sun.source.tree.CompoundAssignmentTree;
import com.sun.source.tree.EnhancedForLoopTree;
import com.sun.source.tree.ForLoopTree;
import com.sun.source.tree.ImportTree;
import com.sun.source.tree.LambdaExpressionTree;
import com.sun.source.tree.LiteralTree;
import com.sun.source.tree.MemberReferenceTree;
import com.sun.source.tree.MethodInvocationTree;
import com.sun.source.tree.MethodTree;
import com.sun.source.tree.NewClassTree;
import com.sun.source.tree.SynchronizedTree;
import com.sun.source.tree.ThrowTree;
import com.sun.source.tree.Tree;
import com.sun.source.tree.TryTree;
import com.sun.source.tree.TypeCastTree;
import com.sun.source.tree.VariableTree;
import com.sun.source.util.JavacTask;
import com.sun.source.util.TreePath;
import com.sun.source.util.TreePathScanner;
import com.sun.source.util.Trees;
import java.io.IOException;
import java.nio.file.Path;
import java.util.HashMap;
import java.util.LinkedHashSet;
import java.util.List;
import java.util.Map;
import java.util.Set;
import javax.lang.model.element.Element;
import javax.lang.model.element.ElementKind;
import javax.lang.model.element.ExecutableElement;
import javax.lang.model.element.Modifier;
import javax.lang.model.element.TypeElement;
import javax.lang.model.type.ArrayType;
import javax.lang.model.type.DeclaredType;
import javax.lang.model.type.TypeKind;
import javax.lang.model.type.TypeMirror;
import javax.tools.JavaCompiler;
import javax.tools.StandardJavaFileManager;
import javax.tools.ToolProvider;

/** The rules of ../shared/LANGUAGE.md that a reading of the program's tree can decide, named by their numbers. */
public final class LanguageTest extends TreePathScanner<Void, Void> {
    private static final int MOST_PARAMETERS = 7;
    private static final int MOST_LINES = 60;
    private static final int MOST_CALLS_DEEP = 8;
    private static final int MOST_CLASSES = 12;
    private static final int MOST_FIELDS = 20;

    private static final Set<String> IMPORTS = Set.of("java.util.ArrayList", "java.util.List", "java.util.Iterator",
            "java.util.Arrays", "java.util.NoSuchElementException");
    private static final Set<String> LIBRARY_TYPES = Set.of("java.lang.String", "java.lang.StringBuilder",
            "java.lang.Integer", "java.util.ArrayList", "java.util.List");
    private static final Set<String> EXCEPTIONS = Set.of("IllegalStateException", "IllegalArgumentException",
            "IndexOutOfBoundsException", "ArithmeticException", "UnsupportedOperationException",
            "NoSuchElementException", "RuntimeException");
    private static final Map<String, Set<String>> LIBRARY_CALLS = Map.of(
            "String", Set.of("length", "charAt", "isEmpty", "equals", "indexOf", "substring", "toCharArray"),
            "StringBuilder", Set.of("append", "charAt", "setCharAt", "setLength", "deleteCharAt", "reverse",
                    "length", "toString"),
            "ArrayList", Set.of("add", "get", "set", "remove", "size", "isEmpty", "clear"),
            "List", Set.of("add", "get", "set", "remove", "size", "isEmpty", "clear", "of"),
            "Math", Set.of("abs", "min", "max", "floorDiv", "floorMod"),
            "Integer", Set.of("compare", "min", "max", "bitCount"),
            "Long", Set.of("compare", "min", "max", "bitCount"),
            "System", Set.of("arraycopy"),
            "Arrays", Set.of("copyOf", "copyOfRange", "fill"),
            "Object", Set.of());

    private final Trees trees;
    private final CompilationUnitTree unit;
    private final Map<Element, Set<Element>> callees = new HashMap<>();
    private int classes;

    private LanguageTest(Trees trees, CompilationUnitTree unit) {
        this.trees = trees;
        this.unit = unit;
    }

    public static void main(String[] args) throws IOException {
        Path source = Path.of(args.length > 0 ? args[0] : ".", "src", "main", "java", "TerraceQuarry.java");
        JavaCompiler compiler = ToolProvider.getSystemJavaCompiler();
        try (StandardJavaFileManager files = compiler.getStandardFileManager(null, null, null)) {
            JavacTask task = (JavacTask) compiler.getTask(null, files, null, List.of("-proc:none"), null,
                    files.getJavaFileObjects(source));
            CompilationUnitTree unit = task.parse().iterator().next();
            task.analyze();
            new LanguageTest(Trees.instance(task), unit).readAll();
        }
        Check.end("LanguageTest");
    }

    private void readAll() {
        scan(unit, null);
        keeps(1, unit.getPackageName() == null && unit.getTypeDecls().size() == 1, unit, "one class, no package");
        keeps(11, classes <= MOST_CLASSES, unit, classes + " classes");
        for (Element method : callees.keySet()) {
            deepestFrom(method, new LinkedHashSet<>());
        }
    }

    private void keeps(int rule, boolean kept, Tree tree, String what) {
        if (kept) {
            Check.pass();
        } else {
            long place = trees.getSourcePositions().getStartPosition(unit, tree);
            Check.fail("line " + unit.getLineMap().getLineNumber(place) + ", rule " + rule + ": " + what);
        }
    }

    private void never(int rule, Tree tree) {
        keeps(rule, false, tree, tree.getKind() + " is not allowed");
    }

    private Element elementOf(Tree tree) {
        return trees.getElement(new TreePath(getCurrentPath(), tree));
    }

    private Element elementHere() {
        return trees.getElement(getCurrentPath());
    }

    private TypeMirror typeOf(Tree tree) {
        return trees.getTypeMirror(new TreePath(getCurrentPath(), tree));
    }

    private static boolean isOwn(Element element) {
        for (Element e = element; e != null; e = e.getEnclosingElement()) {
            if (e.getSimpleName().contentEquals("TerraceQuarry")) {
                return true;
            }
        }
        return false;
    }

    // ---- rules 1, 2, 5, 11 and 12: classes and members

    @Override
    public Void visitImport(ImportTree tree, Void nothing) {
        String name = tree.getQualifiedIdentifier().toString();
        keeps(4, !tree.isStatic() && IMPORTS.contains(name), tree, "import of " + name);
        return super.visitImport(tree, nothing);
    }

    @Override
    public Void visitClass(ClassTree tree, Void nothing) {
        classes++;
        TypeElement element = (TypeElement) elementHere();
        Set<Modifier> modifiers = element.getModifiers();
        boolean outer = element.getSimpleName().contentEquals("TerraceQuarry");
        keeps(1, outer == modifiers.contains(Modifier.PUBLIC), tree, "the document's class alone is public");
        keeps(1, outer || modifiers.contains(Modifier.STATIC), tree, element + " is not static");
        int fields = 0;
        for (Element member : element.getEnclosedElements()) {
            boolean constant = member.getModifiers().contains(Modifier.STATIC);
            fields += member.getKind() == ElementKind.FIELD && !constant ? 1 : 0;
        }
        keeps(11, fields <= MOST_FIELDS, tree, element + " has " + fields + " fields");
        return super.visitClass(tree, nothing);
    }

    @Override
    public Void visitBlock(BlockTree tree, Void nothing) {
        boolean ofClass = getCurrentPath().getParentPath().getLeaf() instanceof ClassTree;
        keeps(5, !(ofClass && tree.isStatic()), tree, "a static initialiser block");
        return super.visitBlock(tree, nothing);
    }

    @Override
    public Void visitMethod(MethodTree tree, Void nothing) {
        ExecutableElement element = (ExecutableElement) elementHere();
        callees.putIfAbsent(element, new LinkedHashSet<>());
        keeps(11, tree.getParameters().size() <= MOST_PARAMETERS, tree, element + " has too many parameters");
        keeps(11, linesOf(tree) <= MOST_LINES, tree, element + " is too long");
        String name = tree.getName().toString();
        keeps(6, !Set.of("equals", "hashCode", "toString").contains(name), tree, element + " is an object's own");
        boolean hidden = element.getModifiers().contains(Modifier.PRIVATE);
        keeps(1, !(hidden && isNameOfFace(name)), tree, "the private " + element + " has a public one's name");
        return super.visitMethod(tree, nothing);
    }

    private long linesOf(MethodTree tree) {
        long start = trees.getSourcePositions().getStartPosition(unit, tree);
        long end = trees.getSourcePositions().getEndPosition(unit, tree);
        if (end < start) {
            return 0;
        }
        return unit.getLineMap().getLineNumber(end) - unit.getLineMap().getLineNumber(start) + 1;
    }

    private static boolean isNameOfFace(String name) {
        for (java.lang.reflect.Method method : TerraceQuarry.class.getMethods()) {
            if (method.getDeclaringClass() == TerraceQuarry.class && method.getName().equals(name)) {
                return true;
            }
        }
        return false;
    }

    // ---- rules 3 and 5: types and fields

    @Override
    public Void visitVariable(VariableTree tree, Void nothing) {
        Element element = elementHere();
        TypeMirror type = element.asType();
        boolean caught = element.getKind() == ElementKind.EXCEPTION_PARAMETER;
        keeps(3, caught || isAllowed(type), tree, element + " is of the type " + type);
        if (element.getKind() == ElementKind.FIELD && element.getModifiers().contains(Modifier.STATIC)) {
            keeps(5, element.getModifiers().contains(Modifier.FINAL), tree, element + " is static and not final");
            keeps(5, isConstant(element, type), tree, element + " is no constant");
        }
        return super.visitVariable(tree, nothing);
    }

    private static boolean isAllowed(TypeMirror type) {
        if (type.getKind() == TypeKind.ARRAY) {
            TypeMirror part = ((ArrayType) type).getComponentType();
            boolean twoDimensions = part.getKind() == TypeKind.ARRAY;
            return twoDimensions ? ((ArrayType) part).getComponentType().getKind().isPrimitive() : isAllowed(part);
        }
        if (type.getKind() != TypeKind.DECLARED) {
            return type.getKind().isPrimitive();
        }
        DeclaredType declared = (DeclaredType) type;
        boolean allowed = isOwn(declared.asElement()) || LIBRARY_TYPES.contains(declared.asElement().toString());
        for (TypeMirror argument : declared.getTypeArguments()) {
            allowed &= isAllowed(argument);
        }
        return allowed;
    }

    private static boolean isConstant(Element field, TypeMirror type) {
        boolean ofEnum = field.getEnclosingElement().getKind() == ElementKind.ENUM;
        boolean text = type.toString().equals("java.lang.String");
        boolean row = type.getKind() == TypeKind.ARRAY;
        return type.getKind().isPrimitive() || text || row || ofEnum;
    }

    // ---- rule 4: the library

    @Override
    public Void visitMethodInvocation(MethodInvocationTree tree, Void nothing) {
        ExecutableElement called = (ExecutableElement) elementHere();
        if (called.getKind() == ElementKind.METHOD) {
            addCall(called);
            String owner = called.getEnclosingElement().getSimpleName().toString();
            String name = called.getSimpleName().toString();
            boolean allowed = isOwn(called) || LIBRARY_CALLS.getOrDefault(owner, Set.of()).contains(name);
            keeps(4, allowed, tree, "call of " + owner + "." + name);
            keeps(3, !owner.equals("Math") || isWhole(called.getReturnType()), tree, "Math on doubles");
        }
        return super.visitMethodInvocation(tree, nothing);
    }

    private static boolean isWhole(TypeMirror type) {
        return type.getKind() == TypeKind.INT || type.getKind() == TypeKind.LONG;
    }

    @Override
    public Void visitNewClass(NewClassTree tree, Void nothing) {
        Element made = elementHere();
        addCall(made);
        String name = made.getEnclosingElement().getSimpleName().toString();
        boolean library = Set.of("ArrayList", "StringBuilder", "String").contains(name) || EXCEPTIONS.contains(name);
        keeps(4, isOwn(made) || library, tree, "new " + name);
        return super.visitNewClass(tree, nothing);
    }

    @Override
    public Void visitLiteral(LiteralTree tree, Void nothing) {
        if (tree.getValue() instanceof String text) {
            keeps(4, text.chars().allMatch(sign -> sign >= 1 && sign <= 127), tree, "a sign outside 1 to 127");
        }
        return super.visitLiteral(tree, nothing);
    }

    // ---- rule 6: exceptions

    @Override
    public Void visitThrow(ThrowTree tree, Void nothing) {
        boolean written = tree.getExpression() instanceof NewClassTree;
        keeps(6, written && throwsAsWritten((NewClassTree) tree.getExpression()), tree, "throw of something else");
        keeps(6, methodAround().getKind() != ElementKind.CONSTRUCTOR, tree, "a throw in a constructor");
        return super.visitThrow(tree, nothing);
    }

    private static boolean throwsAsWritten(NewClassTree tree) {
        boolean known = EXCEPTIONS.contains(tree.getIdentifier().toString());
        int arguments = tree.getArguments().size();
        return known && (arguments == 0 || arguments == 1 && tree.getArguments().get(0) instanceof LiteralTree);
    }

    @Override
    public Void visitTry(TryTree tree, Void nothing) {
        keeps(6, tree.getFinallyBlock() == null && tree.getResources().isEmpty(), tree, "finally or resources");
        return super.visitTry(tree, nothing);
    }

    @Override
    public Void visitCatch(CatchTree tree, Void nothing) {
        String caught = tree.getParameter().getType().toString();
        keeps(6, EXCEPTIONS.contains(caught), tree, "catch of " + caught);
        return super.visitCatch(tree, nothing);
    }

    @Override
    public Void visitSynchronized(SynchronizedTree tree, Void nothing) {
        never(6, tree);
        return super.visitSynchronized(tree, nothing);
    }

    @Override
    public Void visitAssert(AssertTree tree, Void nothing) {
        never(6, tree);
        return super.visitAssert(tree, nothing);
    }

    @Override
    public Void visitTypeCast(TypeCastTree tree, Void nothing) {
        TypeMirror target = typeOf(tree.getType());
        keeps(6, target.getKind().isPrimitive() || isAllowed(target), tree, "cast to " + target);
        return super.visitTypeCast(tree, nothing);
    }

    // ---- rules 2, 3, 6, 9 and 10: expressions and loops

    @Override
    public Void visitLambdaExpression(LambdaExpressionTree tree, Void nothing) {
        never(2, tree);
        return super.visitLambdaExpression(tree, nothing);
    }

    @Override
    public Void visitMemberReference(MemberReferenceTree tree, Void nothing) {
        never(2, tree);
        return super.visitMemberReference(tree, nothing);
    }

    @Override
    public Void visitBinary(BinaryTree tree, Void nothing) {
        TypeMirror left = typeOf(tree.getLeftOperand());
        TypeMirror right = typeOf(tree.getRightOperand());
        boolean objects = left.getKind() == TypeKind.DECLARED && right.getKind() == TypeKind.DECLARED;
        boolean texts = !isOwnOrPrimitive(left) || !isOwnOrPrimitive(right);
        keeps(10, !(tree.getKind() == Tree.Kind.PLUS && texts), tree, "texts joined by +");
        boolean compared = tree.getKind() == Tree.Kind.EQUAL_TO || tree.getKind() == Tree.Kind.NOT_EQUAL_TO;
        keeps(6, !(compared && objects && texts), tree, "two objects of the library compared");
        keeps(3, tree.getKind() != Tree.Kind.REMAINDER || isWholeKind(left) && isWholeKind(right), tree, "% of doubles");
        return super.visitBinary(tree, nothing);
    }

    private static boolean isOwnOrPrimitive(TypeMirror type) {
        boolean declared = type.getKind() == TypeKind.DECLARED;
        return !declared || isOwn(((DeclaredType) type).asElement());
    }

    private static boolean isWholeKind(TypeMirror type) {
        return type.getKind() != TypeKind.DOUBLE && type.getKind() != TypeKind.FLOAT;
    }

    @Override
    public Void visitCompoundAssignment(CompoundAssignmentTree tree, Void nothing) {
        keeps(10, isOwnOrPrimitive(typeOf(tree.getVariable())), tree, "a text joined by +=");
        return super.visitCompoundAssignment(tree, nothing);
    }

    @Override
    public Void visitForLoop(ForLoopTree tree, Void nothing) {
        keeps(9, tree.getCondition() != null && !tree.getUpdate().isEmpty(), tree, "a loop without a counter");
        return super.visitForLoop(tree, nothing);
    }

    @Override
    public Void visitEnhancedForLoop(EnhancedForLoopTree tree, Void nothing) {
        boolean row = typeOf(tree.getExpression()).getKind() == TypeKind.ARRAY;
        keeps(12, row, tree, "a loop that makes an iterator");
        return super.visitEnhancedForLoop(tree, nothing);
    }

    // ---- rules 8 and 11: how deep calls go

    private Element methodAround() {
        for (TreePath path = getCurrentPath(); path != null; path = path.getParentPath()) {
            if (path.getLeaf() instanceof MethodTree) {
                return trees.getElement(path);
            }
        }
        return elementOf(unit.getTypeDecls().get(0));
    }

    private void addCall(Element called) {
        if (isOwn(called)) {
            callees.computeIfAbsent(methodAround(), key -> new LinkedHashSet<>()).add(called);
        }
    }

    private void deepestFrom(Element method, Set<Element> open) {
        boolean again = open.contains(method);
        keeps(8, !again, trees.getTree(method), method + " calls itself");
        if (again) {
            return;
        }
        open.add(method);
        keeps(11, open.size() <= MOST_CALLS_DEEP, trees.getTree(method), "calls too deep: " + open);
        for (Element called : callees.getOrDefault(method, Set.of())) {
            deepestFrom(called, open);
        }
        open.remove(method);
    }
}
