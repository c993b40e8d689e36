import com.sun.source.tree.AssignmentTree;
import com.sun.source.tree.BinaryTree;
import com.sun.source.tree.BlockTree;
import com.sun.source.tree.CatchTree;
import com.sun.source.tree.ClassTree;
import com.sun.source.tree.CompilationUnitTree;
import com.sun.source.tree.CompoundAssignmentTree;
import com.sun.source.tree.DoWhileLoopTree;
import com.sun.source.tree.ExpressionTree;
import com.sun.source.tree.ForLoopTree;
import com.sun.source.tree.ImportTree;
import com.sun.source.tree.LiteralTree;
import com.sun.source.tree.MethodInvocationTree;
import com.sun.source.tree.MethodTree;
import com.sun.source.tree.NewArrayTree;
import com.sun.source.tree.NewClassTree;
import com.sun.source.tree.ThrowTree;
import com.sun.source.tree.Tree;
import com.sun.source.tree.TryTree;
import com.sun.source.tree.TypeCastTree;
import com.sun.source.tree.VariableTree;
import com.sun.source.tree.WhileLoopTree;
import com.sun.source.util.JavacTask;
import com.sun.source.util.TreePath;
import com.sun.source.util.TreePathScanner;
import com.sun.source.util.Trees;
import java.io.File;
import java.util.ArrayList;
import java.util.LinkedHashMap;
import java.util.LinkedHashSet;
import java.util.List;
import java.util.Map;
import java.util.Set;
import javax.lang.model.element.Element;
import javax.lang.model.element.ElementKind;
import javax.lang.model.element.ExecutableElement;
import javax.lang.model.element.Modifier;
import javax.lang.model.element.TypeElement;
import javax.lang.model.type.ArrayType;
import javax.lang.model.type.TypeMirror;
import javax.tools.JavaCompiler;
import javax.tools.StandardJavaFileManager;
import javax.tools.ToolProvider;

/**
 * What of LANGUAGE.md can be seen in the class by javac's own trees; run from the project's folder. The lists here name
 * what the class uses so far: where the rules allow more than that (doubles, lists, null), they may be widened.
 */
public final class LanguageTest extends TreePathScanner<Void, Void> {
    private static final String FILE = "src/main/java/PromisedStock.java";
    private static final Set<Tree.Kind> RULED_OUT = Set.of(Tree.Kind.LAMBDA_EXPRESSION, Tree.Kind.MEMBER_REFERENCE,
        Tree.Kind.ASSERT, Tree.Kind.SYNCHRONIZED, Tree.Kind.SWITCH_EXPRESSION, Tree.Kind.BINDING_PATTERN,
        Tree.Kind.UNION_TYPE, Tree.Kind.PACKAGE, Tree.Kind.INTERSECTION_TYPE);
    private static final Set<String> NUMBERS = Set.of("int", "long", "short", "byte", "char", "boolean");
    private static final Set<String> WORDS = Set.of("java.lang.String", "java.lang.StringBuilder");
    private static final Map<String, Set<String>> LIBRARY = Map.of(
        "java.lang.String", Set.of("length", "charAt", "isEmpty", "equals", "indexOf", "substring", "toCharArray"),
        "java.lang.StringBuilder", Set.of("append", "charAt", "setCharAt", "setLength", "deleteCharAt", "reverse", "length", "toString"),
        "java.lang.Math", Set.of("max", "min", "abs", "floorDiv", "floorMod"),
        "java.lang.Integer", Set.of("bitCount", "compare", "max", "min"),
        "java.lang.Long", Set.of("bitCount", "compare", "max", "min"),
        "java.lang.System", Set.of("arraycopy"),
        "java.util.Arrays", Set.of("copyOf", "copyOfRange", "fill"),
        "java.lang.Object", Set.of());
    private static final Set<String> THROWN = Set.of("java.lang.IllegalStateException",
        "java.lang.IllegalArgumentException", "java.lang.IndexOutOfBoundsException", "java.lang.ArithmeticException",
        "java.lang.UnsupportedOperationException", "java.util.NoSuchElementException", "java.lang.RuntimeException");
    private static final Set<String> IMPORTS = Set.of("java.util.Arrays", "java.util.ArrayList", "java.util.List",
        "java.util.Iterator", "java.util.NoSuchElementException");
    private static final Set<String> SHARED = Set.of("int", "long", "boolean", "char", "java.lang.String", "int[]",
        "long[]", "char[]", "byte[]");

    private static final Checks CHECKS = new Checks();

    private final Trees trees;
    private final CompilationUnitTree unit;
    private final Map<Element, Set<Element>> calls = new LinkedHashMap<>();
    private final Set<Element> throwing = new LinkedHashSet<>();
    private final Set<Element> trying = new LinkedHashSet<>();
    private int classes;
    private int loops;

    private LanguageTest(Trees trees, CompilationUnitTree unit) {
        this.trees = trees;
        this.unit = unit;
    }

    public static void main(String[] args) throws Exception {
        JavaCompiler compiler = ToolProvider.getSystemJavaCompiler();
        try (StandardJavaFileManager files = compiler.getStandardFileManager(null, null, null)) {
            JavacTask task = (JavacTask) compiler.getTask(null, files, null, List.of("--release", "17", "-proc:none"),
                null, files.getJavaFileObjects(new File(FILE)));
            CompilationUnitTree unit = task.parse().iterator().next();
            task.analyze();
            new LanguageTest(Trees.instance(task), unit).check();
        }
        CHECKS.end();
    }

    private void check() {
        scan(new TreePath(unit), null);
        CHECKS.is("types in the file", 1, unit.getTypeDecls().size());
        CHECKS.is("classes: " + classes, true, classes <= 12);
        CHECKS.is("methods found: " + calls.size(), true, calls.size() > 30);
        CHECKS.is("loops found: " + loops, true, loops > 10);
        for (Element one : trying) {
            CHECKS.is(one + " holds no try beside a throw", false, throwing.contains(one));
        }
        depths();
    }

    private void is(String what, boolean holds) {
        long line = getCurrentPath() == null ? 0
            : unit.getLineMap().getLineNumber(trees.getSourcePositions().getStartPosition(unit, getCurrentPath().getLeaf()));
        CHECKS.is("line " + line + ": " + what, true, holds);
    }

    private Element element() {
        return trees.getElement(getCurrentPath());
    }

    private String typeOf(Tree tree) {
        TypeMirror type = trees.getTypeMirror(new TreePath(getCurrentPath(), tree));
        return type == null ? "" : type.toString();
    }

    /** The method that the tree stands in; the class, if it stands in none. */
    private Element around() {
        for (TreePath path = getCurrentPath(); path != null; path = path.getParentPath()) {
            Tree.Kind kind = path.getLeaf().getKind();
            if (kind == Tree.Kind.METHOD || kind == Tree.Kind.CLASS) {
                return trees.getElement(path);
            }
        }
        return null;
    }

    private boolean isOwn(String type) {
        return type.equals("PromisedStock") || type.startsWith("PromisedStock.");
    }

    private boolean isAllowed(TypeMirror type) {
        if (type instanceof ArrayType) {
            TypeMirror part = ((ArrayType) type).getComponentType();
            TypeMirror inner = part instanceof ArrayType ? ((ArrayType) part).getComponentType() : part;
            boolean numbers = NUMBERS.contains(inner.toString());
            return numbers || part == inner && isOwn(inner.toString());
        }
        return NUMBERS.contains(type.toString()) || WORDS.contains(type.toString()) || isOwn(type.toString());
    }

    @Override
    public Void scan(Tree tree, Void none) {
        if (tree != null) {
            CHECKS.is("kind of tree " + tree.getKind(), false, RULED_OUT.contains(tree.getKind()));
        }
        return super.scan(tree, none);
    }

    @Override
    public Void visitImport(ImportTree tree, Void none) {
        is("import " + tree, !tree.isStatic() && IMPORTS.contains(tree.getQualifiedIdentifier().toString()));
        return null;
    }

    @Override
    public Void visitClass(ClassTree tree, Void none) {
        classes++;
        boolean outer = tree.getSimpleName().contentEquals("PromisedStock");
        Set<Modifier> modifiers = element().getModifiers();
        is("class " + tree.getSimpleName(), outer || modifiers.contains(Modifier.STATIC) && !modifiers.contains(Modifier.PUBLIC));
        is("no local class", getCurrentPath().getParentPath().getLeaf().getKind() != Tree.Kind.BLOCK);
        int fields = 0;
        for (Tree member : tree.getMembers()) {
            boolean field = member instanceof VariableTree;
            fields += field && !((VariableTree) member).getModifiers().getFlags().contains(Modifier.STATIC) ? 1 : 0;
            is("no block beside methods", !(member instanceof BlockTree));
        }
        is("fields: " + fields, fields <= 20);
        return super.visitClass(tree, none);
    }

    @Override
    public Void visitMethod(MethodTree tree, Void none) {
        calls.putIfAbsent(element(), new LinkedHashSet<>());
        String name = tree.getName().toString();
        is("parameters of " + name, tree.getParameters().size() <= 7);
        is("no " + name + " of one's own", !Set.of("equals", "hashCode", "toString").contains(name));
        if (tree.getReturnType() != null) {
            TypeMirror type = ((ExecutableElement) element()).getReturnType();
            is("type of " + name, type.toString().equals("void") || isAllowed(type));
        }
        long from = unit.getLineMap().getLineNumber(trees.getSourcePositions().getStartPosition(unit, tree));
        long to = unit.getLineMap().getLineNumber(trees.getSourcePositions().getEndPosition(unit, tree));
        is("lines of " + name + ": " + (to - from + 1), to - from + 1 <= 60);
        return super.visitMethod(tree, none);
    }

    @Override
    public Void visitVariable(VariableTree tree, Void none) {
        Element element = element();
        is("type of " + tree.getName(), element.getKind() == ElementKind.EXCEPTION_PARAMETER || isAllowed(element.asType()));
        if (element.getEnclosingElement() instanceof TypeElement && tree.getModifiers().getFlags().contains(Modifier.STATIC)) {
            is(tree.getName() + " is final", tree.getModifiers().getFlags().contains(Modifier.FINAL));
            is(tree.getName() + " is a constant", SHARED.contains(element.asType().toString()));
            boolean array = element.asType() instanceof ArrayType;
            is(tree.getName() + " is written out", tree.getInitializer() != null && array == tree.getInitializer() instanceof NewArrayTree);
        }
        return super.visitVariable(tree, none);
    }

    @Override
    public Void visitAssignment(AssignmentTree tree, Void none) {
        isNoConstant(tree.getVariable());
        return super.visitAssignment(tree, none);
    }

    @Override
    public Void visitCompoundAssignment(CompoundAssignmentTree tree, Void none) {
        isNoConstant(tree.getVariable());
        is("no text by +=", !typeOf(tree.getVariable()).equals("java.lang.String"));
        isNoBareDivision(tree.getKind() == Tree.Kind.DIVIDE_ASSIGNMENT || tree.getKind() == Tree.Kind.REMAINDER_ASSIGNMENT, tree.getExpression());
        return super.visitCompoundAssignment(tree, none);
    }

    // Whatever stands in an array that is shared stays as it was written out.
    private void isNoConstant(ExpressionTree variable) {
        String name = variable.toString().replaceAll("\\[.*", "");
        is(name + " isn't changed", !name.matches("(PromisedStock\\.)?MOST"));
    }

    private void isNoBareDivision(boolean divides, ExpressionTree divisor) {
        if (!divides) {
            return;
        }
        // A divisor that is no number above 0 stands behind a test of it, in the same expression.
        boolean sure = divisor instanceof LiteralTree && !divisor.toString().equals("0");
        Tree test = getCurrentPath().getParentPath().getLeaf();
        is("divisor " + divisor, sure || test.toString().startsWith(divisor + " > 0 ? "));
    }

    @Override
    public Void visitBinary(BinaryTree tree, Void none) {
        boolean texts = typeOf(tree.getLeftOperand()).equals("java.lang.String") || typeOf(tree.getRightOperand()).equals("java.lang.String");
        is("no + and no == of texts", !texts);
        isNoBareDivision(tree.getKind() == Tree.Kind.DIVIDE || tree.getKind() == Tree.Kind.REMAINDER, tree.getRightOperand());
        return super.visitBinary(tree, none);
    }

    @Override
    public Void visitTypeCast(TypeCastTree tree, Void none) {
        is("cast to " + tree.getType(), NUMBERS.contains(tree.getType().toString()));
        return super.visitTypeCast(tree, none);
    }

    @Override
    public Void visitLiteral(LiteralTree tree, Void none) {
        if (tree.getValue() instanceof String || tree.getValue() instanceof Character) {
            is("signs of " + tree, tree.getValue().toString().chars().allMatch(c -> c >= 1 && c <= 127));
        }
        // Where no null is written, and rows are made with their object, no reference needs a test.
        is("no reference is null", tree.getKind() != Tree.Kind.NULL_LITERAL);
        return null;
    }

    @Override
    public Void visitMethodInvocation(MethodInvocationTree tree, Void none) {
        ExecutableElement called = (ExecutableElement) element();
        String owner = called.getEnclosingElement().toString();
        if (isOwn(owner)) {
            calls.computeIfAbsent(around(), key -> new LinkedHashSet<>()).add(called);
        } else if (!called.getSimpleName().contentEquals("<init>")) {
            is(owner + "." + called, LIBRARY.getOrDefault(owner, Set.of()).contains(called.getSimpleName().toString()));
        }
        return super.visitMethodInvocation(tree, none);
    }

    @Override
    public Void visitNewClass(NewClassTree tree, Void none) {
        String made = typeOf(tree.getIdentifier());
        boolean kept = around() instanceof TypeElement || around().getSimpleName().contentEquals("<init>");
        is("new " + made, kept ? isOwn(made) : THROWN.contains(made));
        return super.visitNewClass(tree, none);
    }

    @Override
    public Void visitNewArray(NewArrayTree tree, Void none) {
        is("rows are made with the object", around() instanceof TypeElement || around().getSimpleName().contentEquals("<init>"));
        return super.visitNewArray(tree, none);
    }

    @Override
    public Void visitThrow(ThrowTree tree, Void none) {
        throwing.add(around());
        boolean made = tree.getExpression() instanceof NewClassTree;
        is("throw " + tree.getExpression(), made);
        is("no throw in a constructor", !around().getSimpleName().contentEquals("<init>"));
        if (made) {
            List<? extends ExpressionTree> words = ((NewClassTree) tree.getExpression()).getArguments();
            is("words of what is thrown", words.isEmpty() || words.size() == 1 && words.get(0) instanceof LiteralTree);
        }
        return super.visitThrow(tree, none);
    }

    @Override
    public Void visitTry(TryTree tree, Void none) {
        trying.add(around());
        is("no finally, no resources", tree.getFinallyBlock() == null && tree.getResources().isEmpty());
        for (CatchTree one : tree.getCatches()) {
            is("catch " + one.getParameter(), THROWN.contains(trees.getTypeMirror(
                new TreePath(getCurrentPath(), one.getParameter().getType())).toString()));
        }
        return super.visitTry(tree, none);
    }

    @Override
    public Void visitForLoop(ForLoopTree tree, Void none) {
        loops++;
        is("a for has an end", tree.getCondition() != null);
        return super.visitForLoop(tree, none);
    }

    @Override
    public Void visitWhileLoop(WhileLoopTree tree, Void none) {
        loops++;
        is("a while has an end", tree.getCondition().toString().contains("<"));
        return super.visitWhileLoop(tree, none);
    }

    @Override
    public Void visitDoWhileLoop(DoWhileLoopTree tree, Void none) {
        loops++;
        is("a do has an end", tree.getCondition().toString().contains("<"));
        return super.visitDoWhileLoop(tree, none);
    }

    /** Calls that are no recursion go at most eight deep; methods that call one another carry how deep they are. */
    private void depths() {
        for (Element method : calls.keySet()) {
            if (method.getModifiers().contains(Modifier.PUBLIC)) {
                List<Element> deepest = deepest(method, new ArrayList<>());
                CHECKS.is("calls from " + deepest + ": " + deepest.size(), true, deepest.size() <= 8);
            }
            if (reached(method).contains(method)) {
                boolean carried = method instanceof ExecutableElement
                    && ((ExecutableElement) method).getParameters().stream().anyMatch(p -> p.getSimpleName().contentEquals("open"));
                CHECKS.is(method + " carries its depth", true, carried);
            }
        }
    }

    private Set<Element> reached(Element method) {
        Set<Element> found = new LinkedHashSet<>(calls.getOrDefault(method, Set.of()));
        for (int size = -1; size != found.size();) {
            size = found.size();
            for (Element one : new ArrayList<>(found)) {
                found.addAll(calls.getOrDefault(one, Set.of()));
            }
        }
        return found;
    }

    private List<Element> deepest(Element method, List<Element> open) {
        List<Element> now = new ArrayList<>(open);
        now.add(method);
        List<Element> found = now;
        for (Element next : calls.getOrDefault(method, Set.of())) {
            if (!now.contains(next)) {
                List<Element> further = deepest(next, now);
                found = further.size() > found.size() ? further : found;
            }
        }
        return found;
    }
}
