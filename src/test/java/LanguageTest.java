import com.sun.source.tree.BinaryTree;
import com.sun.source.tree.BlockTree;
import com.sun.source.tree.ClassTree;
import com.sun.source.tree.CompilationUnitTree;
import com.sun.source.tree.EnhancedForLoopTree;
import com.sun.source.tree.ExpressionTree;
import com.sun.source.tree.ForLoopTree;
import com.sun.source.tree.ImportTree;
import com.sun.source.tree.MethodInvocationTree;
import com.sun.source.tree.MethodTree;
import com.sun.source.tree.NewArrayTree;
import com.sun.source.tree.NewClassTree;
import com.sun.source.tree.ThrowTree;
import com.sun.source.tree.Tree;
import com.sun.source.tree.TypeCastTree;
import com.sun.source.tree.UnaryTree;
import com.sun.source.tree.VariableTree;
import com.sun.source.util.JavacTask;
import com.sun.source.util.TreePath;
import com.sun.source.util.TreePathScanner;
import com.sun.source.util.Trees;
import java.io.IOException;
import java.nio.file.Files;
import java.nio.file.Path;
import java.util.EnumSet;
import java.util.HashMap;
import java.util.HashSet;
import java.util.List;
import java.util.Map;
import java.util.Set;
import java.util.TreeMap;
import java.util.TreeSet;
import javax.lang.model.element.Element;
import javax.lang.model.element.ElementKind;
import javax.lang.model.element.Modifier;
import javax.lang.model.type.TypeKind;
import javax.lang.model.type.TypeMirror;
import javax.tools.JavaCompiler;
import javax.tools.StandardJavaFileManager;
import javax.tools.ToolProvider;

/**
 * The rules of LANGUAGE.md, looked for in the source as the compiler reads it; rule 1 is FaceTest's. Where the class
 * needs less than a rule leaves, the test asks for less: no catch, no while, no cast but to a number, no recursion.
 * Run it in the project's folder.
 */
public final class LanguageTest extends TreePathScanner<Void, Void> {
    private static final Path SOURCE = Path.of("src/main/java/PlankUnroll.java");
    private static final int MOST_LINES = 60;
    private static final int MOST_PARAMETERS = 7;
    private static final int DEEPEST = 8;
    private static final int MOST_CLASSES = 12;
    private static final int MOST_FIELDS = 20;
    private static final Set<Tree.Kind> KINDS = EnumSet.of(Tree.Kind.COMPILATION_UNIT, Tree.Kind.IMPORT, Tree.Kind.CLASS,
        Tree.Kind.METHOD, Tree.Kind.VARIABLE, Tree.Kind.MODIFIERS, Tree.Kind.BLOCK, Tree.Kind.PRIMITIVE_TYPE,
        Tree.Kind.ARRAY_TYPE, Tree.Kind.PARAMETERIZED_TYPE, Tree.Kind.IDENTIFIER, Tree.Kind.MEMBER_SELECT,
        Tree.Kind.ARRAY_ACCESS, Tree.Kind.ASSIGNMENT, Tree.Kind.NEW_CLASS, Tree.Kind.NEW_ARRAY, Tree.Kind.IF,
        Tree.Kind.FOR_LOOP, Tree.Kind.ENHANCED_FOR_LOOP, Tree.Kind.BREAK, Tree.Kind.CONTINUE, Tree.Kind.RETURN,
        Tree.Kind.THROW, Tree.Kind.EXPRESSION_STATEMENT, Tree.Kind.METHOD_INVOCATION, Tree.Kind.PARENTHESIZED,
        Tree.Kind.CONDITIONAL_EXPRESSION, Tree.Kind.TYPE_CAST, Tree.Kind.POSTFIX_INCREMENT,
        Tree.Kind.POSTFIX_DECREMENT, Tree.Kind.UNARY_MINUS, Tree.Kind.LOGICAL_COMPLEMENT, Tree.Kind.PLUS,
        Tree.Kind.MINUS, Tree.Kind.MULTIPLY, Tree.Kind.DIVIDE, Tree.Kind.REMAINDER, Tree.Kind.LESS_THAN,
        Tree.Kind.LESS_THAN_EQUAL, Tree.Kind.GREATER_THAN, Tree.Kind.GREATER_THAN_EQUAL, Tree.Kind.EQUAL_TO,
        Tree.Kind.NOT_EQUAL_TO, Tree.Kind.CONDITIONAL_AND, Tree.Kind.CONDITIONAL_OR, Tree.Kind.INT_LITERAL,
        Tree.Kind.LONG_LITERAL, Tree.Kind.DOUBLE_LITERAL, Tree.Kind.BOOLEAN_LITERAL, Tree.Kind.STRING_LITERAL,
        Tree.Kind.NULL_LITERAL);
    /** What may be done with doubles; a minus before one is in rule 3's own words. */
    private static final Set<Tree.Kind> ON_DOUBLES = EnumSet.of(Tree.Kind.PLUS, Tree.Kind.MINUS, Tree.Kind.MULTIPLY,
        Tree.Kind.DIVIDE, Tree.Kind.LESS_THAN, Tree.Kind.LESS_THAN_EQUAL, Tree.Kind.GREATER_THAN,
        Tree.Kind.GREATER_THAN_EQUAL, Tree.Kind.EQUAL_TO, Tree.Kind.NOT_EQUAL_TO, Tree.Kind.UNARY_MINUS);
    private static final Set<String> LIBRARY_CALLS = Set.of("java.util.ArrayList.add(E)", "java.util.ArrayList.get(int)",
        "java.util.ArrayList.set(int,E)", "java.util.ArrayList.size()", "java.util.ArrayList.isEmpty()",
        "java.util.ArrayList.clear()", "java.lang.Math.max(int,int)", "java.lang.Math.min(int,int)",
        "java.lang.Math.abs(int)", "java.lang.System.arraycopy(java.lang.Object,int,java.lang.Object,int,int)");
    private static final Set<String> IMPORTS = Set.of("java.util.ArrayList", "java.util.List", "java.util.Arrays");
    private static final Set<String> EXCEPTIONS = Set.of("java.lang.IllegalStateException",
        "java.lang.IllegalArgumentException", "java.lang.IndexOutOfBoundsException");
    private static final Set<TypeKind> PRIMITIVES = EnumSet.of(TypeKind.INT, TypeKind.LONG, TypeKind.SHORT, TypeKind.BYTE,
        TypeKind.CHAR, TypeKind.BOOLEAN, TypeKind.DOUBLE, TypeKind.FLOAT);

    private final Trees trees;
    private final CompilationUnitTree unit;
    /** What each method and constructor calls of the file's own. */
    private final Map<Element, Set<Element>> calls = new HashMap<>();
    private final Map<String, Integer> fields = new TreeMap<>();
    private final Set<String> makers = new TreeSet<>();
    private int classes;

    private LanguageTest(Trees trees, CompilationUnitTree unit) {
        this.trees = trees;
        this.unit = unit;
    }

    public static void main(String[] args) throws IOException {
        Due.same("characters 0 to 255", true, Files.readString(SOURCE).chars().allMatch(c -> c < 256));
        JavaCompiler compiler = ToolProvider.getSystemJavaCompiler();
        try (StandardJavaFileManager files = compiler.getStandardFileManager(null, null, null)) {
            JavacTask task = (JavacTask) compiler.getTask(null, files, null, List.of("-proc:none"), null,
                files.getJavaFileObjects(SOURCE));
            CompilationUnitTree unit = task.parse().iterator().next();
            task.analyze();
            LanguageTest test = new LanguageTest(Trees.instance(task), unit);
            test.scan(unit, null);
            test.afterwards();
        }
        Due.end("LanguageTest");
    }

    private void afterwards() {
        Due.same("rule 11: some twelve classes", true, classes > 1 && classes <= MOST_CLASSES);
        for (Map.Entry<String, Integer> each : fields.entrySet()) {
            Due.same("rule 11: fields of " + each.getKey(), true, each.getValue() <= MOST_FIELDS);
        }
        for (Element each : calls.keySet()) {
            Due.same("rules 8 and 11: calls from " + each + " go at most eight deep", true,
                depth(each, new HashSet<>()) <= DEEPEST);
        }
        // Each is made once by a call that is taken, and not in a loop; all else is made in constructors.
        Due.same("rule 12: what calls make", "[board makes Board, fault makes Box]", makers.toString());
    }

    /** How many calls stand open at once from a method on; of a recursion, more than there may be. */
    private int depth(Element method, Set<Element> open) {
        if (!open.add(method)) {
            return DEEPEST + 1;
        }
        int deepest = 0;
        for (Element each : calls.getOrDefault(method, Set.of())) {
            deepest = Math.max(deepest, depth(each, open));
        }
        open.remove(method);
        return deepest + 1;
    }

    private String at(Tree tree) {
        long start = trees.getSourcePositions().getStartPosition(unit, tree);
        return "line " + unit.getLineMap().getLineNumber(start) + ", ";
    }

    private long line(long position) {
        return unit.getLineMap().getLineNumber(position);
    }

    private TypeMirror typeOf(Tree tree) {
        return trees.getTypeMirror(new TreePath(getCurrentPath(), tree));
    }

    private static boolean isReal(TypeMirror type) {
        return type.getKind() == TypeKind.DOUBLE || type.getKind() == TypeKind.FLOAT;
    }

    private boolean isOwn(Element element) {
        Element at = element;
        while (at != null && !at.toString().equals("PlankUnroll")) {
            at = at.getEnclosingElement();
        }
        return at != null;
    }

    /** The method, constructor or class within which the scanner stands. */
    private Tree around(Class<? extends Tree> kind) {
        TreePath path = getCurrentPath();
        while (path != null && !kind.isInstance(path.getLeaf())) {
            path = path.getParentPath();
        }
        return path == null ? null : path.getLeaf();
    }

    private String nameAround() {
        MethodTree method = (MethodTree) around(MethodTree.class);
        return method == null ? "a field" : method.getName().toString();
    }

    @Override
    public Void scan(Tree tree, Void none) {
        if (tree != null) {
            Due.same(at(tree) + tree.getKind() + " is of the part of Java that is left", true, KINDS.contains(tree.getKind()));
        }
        return super.scan(tree, none);
    }

    @Override
    public Void visitImport(ImportTree tree, Void none) {
        boolean left = !tree.isStatic() && IMPORTS.contains(tree.getQualifiedIdentifier().toString());
        Due.same("rule 4: " + tree.toString().strip(), true, left);
        return super.visitImport(tree, none);
    }

    @Override
    public Void visitClass(ClassTree tree, Void none) {
        classes++;
        Tree outer = getCurrentPath().getParentPath().getLeaf();
        boolean inside = outer instanceof ClassTree;
        Set<Modifier> flags = tree.getModifiers().getFlags();
        Due.same("rule 2: " + tree.getSimpleName() + " stands on its own or in the public class", true,
            inside || outer instanceof CompilationUnitTree);
        Due.same("rule 1: only the public class is public", !inside, flags.contains(Modifier.PUBLIC));
        Due.same("rule 1: what stands inside is static", inside, flags.contains(Modifier.STATIC));
        for (Tree member : tree.getMembers()) {
            boolean initialiser = member instanceof BlockTree;
            Due.same("rule 5: no initialiser block in " + tree.getSimpleName(), false, initialiser);
            if (member instanceof VariableTree) {
                Set<Modifier> of = ((VariableTree) member).getModifiers().getFlags();
                boolean fixed = of.contains(Modifier.STATIC);
                Due.same(at(member) + "rule 5: a static field is final", true, !fixed || of.contains(Modifier.FINAL));
                fields.merge(tree.getSimpleName().toString(), fixed ? 0 : 1, Integer::sum);
            }
        }
        return super.visitClass(tree, none);
    }

    @Override
    public Void visitMethod(MethodTree tree, Void none) {
        Element method = trees.getElement(getCurrentPath());
        calls.computeIfAbsent(method, each -> new HashSet<>());
        long from = line(trees.getSourcePositions().getStartPosition(unit, tree));
        long to = line(trees.getSourcePositions().getEndPosition(unit, tree));
        Due.same("rule 11: " + tree.getName() + " is short", true, to - from < MOST_LINES);
        Due.same("rule 11: " + tree.getName() + " takes at most seven", true,
            tree.getParameters().size() <= MOST_PARAMETERS);
        Set<Modifier> flags = tree.getModifiers().getFlags();
        boolean plain = !flags.contains(Modifier.SYNCHRONIZED) && !flags.contains(Modifier.NATIVE);
        Due.same("rule 6: " + tree.getName() + " is neither synchronized nor native", true, plain);
        if (tree.getReturnType() != null && typeOf(tree.getReturnType()).getKind() != TypeKind.VOID) {
            type(tree.getReturnType());
        }
        return super.visitMethod(tree, none);
    }

    @Override
    public Void visitVariable(VariableTree tree, Void none) {
        Set<Modifier> flags = tree.getModifiers().getFlags();
        boolean plain = !flags.contains(Modifier.VOLATILE) && !flags.contains(Modifier.TRANSIENT);
        Due.same(at(tree) + tree.getName() + " is neither volatile nor transient", true, plain);
        type(tree.getType());
        return super.visitVariable(tree, none);
    }

    /** Rule 3: numbers, arrays of them or of own classes, own classes, texts, and lists of own classes. */
    private void type(Tree tree) {
        Due.same(at(tree) + "rule 3: the type " + tree, true, isLeft(typeOf(tree), 0));
    }

    private boolean isLeft(TypeMirror type, int dimensions) {
        if (type.getKind() == TypeKind.ARRAY) {
            TypeMirror of = ((javax.lang.model.type.ArrayType) type).getComponentType();
            return dimensions < 2 && isLeft(of, dimensions + 1);
        }
        if (PRIMITIVES.contains(type.getKind())) {
            return true;
        }
        String name = type.toString();
        boolean list = name.matches("java\\.util\\.(Array)?List<(PlankUnroll\\.\\w+|java\\.lang\\.Integer)>");
        return dimensions < 2 && name.startsWith("PlankUnroll.") || dimensions == 0 && (list || name.equals("java.lang.String"));
    }

    @Override
    public Void visitBinary(BinaryTree tree, Void none) {
        TypeMirror left = typeOf(tree.getLeftOperand());
        TypeMirror right = typeOf(tree.getRightOperand());
        if (isReal(left) || isReal(right)) {
            Due.same(at(tree) + "rule 3: " + tree, true, ON_DOUBLES.contains(tree.getKind()));
        }
        boolean text = left.toString().equals("java.lang.String") || right.toString().equals("java.lang.String");
        Due.same(at(tree) + "rule 10: no text is joined or compared by " + tree.getKind(), false, text);
        return super.visitBinary(tree, none);
    }

    @Override
    public Void visitUnary(UnaryTree tree, Void none) {
        if (isReal(typeOf(tree.getExpression()))) {
            Due.same(at(tree) + "rule 3: " + tree, true, ON_DOUBLES.contains(tree.getKind()));
        }
        return super.visitUnary(tree, none);
    }

    @Override
    public Void visitTypeCast(TypeCastTree tree, Void none) {
        Due.same(at(tree) + "rule 6: a cast is to a number", true, typeOf(tree.getType()).getKind().isPrimitive());
        return super.visitTypeCast(tree, none);
    }

    @Override
    public Void visitMethodInvocation(MethodInvocationTree tree, Void none) {
        called(tree, trees.getElement(getCurrentPath()));
        return super.visitMethodInvocation(tree, none);
    }

    private void called(Tree tree, Element method) {
        if (isOwn(method)) {
            MethodTree by = (MethodTree) around(MethodTree.class);
            Due.same(at(tree) + "a call stands in a method", true, by != null);
            if (by != null) {
                Element caller = trees.getElement(trees.getPath(unit, by));
                calls.computeIfAbsent(caller, each -> new HashSet<>()).add(method);
            }
            return;
        }
        if (method.getKind() == ElementKind.CONSTRUCTOR && method.getEnclosingElement().toString().equals("java.lang.Object")) {
            return;
        }
        String told = method.getEnclosingElement() + "." + method;
        Due.same(at(tree) + "rule 4: " + told, true, LIBRARY_CALLS.contains(told));
    }

    @Override
    public Void visitNewClass(NewClassTree tree, Void none) {
        Element constructor = trees.getElement(getCurrentPath());
        Element of = constructor.getEnclosingElement();
        boolean thrown = getCurrentPath().getParentPath().getLeaf() instanceof ThrowTree;
        Due.same(at(tree) + "rule 2: no class without a name", true, tree.getClassBody() == null);
        if (!thrown) {
            boolean left = isOwn(of) || of.toString().equals("java.util.ArrayList");
            Due.same(at(tree) + "rule 4: a new " + of, true, left);
            made(of.getSimpleName().toString());
        }
        if (isOwn(constructor)) {
            called(tree, constructor);
        }
        return super.visitNewClass(tree, none);
    }

    @Override
    public Void visitNewArray(NewArrayTree tree, Void none) {
        made("an array");
        return super.visitNewArray(tree, none);
    }

    private void made(String what) {
        if (!nameAround().equals("<init>")) {
            makers.add(nameAround() + " makes " + what);
            boolean looped = around(ForLoopTree.class) != null || around(EnhancedForLoopTree.class) != null;
            Due.same("rule 12: " + nameAround() + " makes " + what + " in no loop", false, looped);
        }
    }

    @Override
    public Void visitThrow(ThrowTree tree, Void none) {
        ExpressionTree thrown = tree.getExpression();
        boolean isNew = thrown instanceof NewClassTree;
        Due.same(at(tree) + "rule 6: what is thrown is new", true, isNew);
        Due.same(at(tree) + "rule 6: no constructor throws", false, nameAround().equals("<init>"));
        if (isNew) {
            List<? extends ExpressionTree> told = ((NewClassTree) thrown).getArguments();
            boolean written = told.isEmpty() || told.size() == 1 && told.get(0).getKind() == Tree.Kind.STRING_LITERAL;
            Due.same(at(tree) + "rule 6: " + thrown, true, written && EXCEPTIONS.contains(typeOf(thrown).toString()));
        }
        return super.visitThrow(tree, none);
    }

    /** Rule 9: a counter against a bound that grows in each round, or the elements of an array or a list. */
    @Override
    public Void visitForLoop(ForLoopTree tree, Void none) {
        boolean bound = tree.getCondition() instanceof BinaryTree && tree.getUpdate().size() == 1;
        boolean counts = bound && tree.getUpdate().get(0).getExpression().getKind() == Tree.Kind.POSTFIX_INCREMENT;
        Due.same(at(tree) + "rule 9: a loop counts against a bound", true, counts);
        return super.visitForLoop(tree, none);
    }

    /** Rule 12: a list is gone through by its index, so that no iterator is made. */
    @Override
    public Void visitEnhancedForLoop(EnhancedForLoopTree tree, Void none) {
        TypeMirror over = typeOf(tree.getExpression());
        Due.same(at(tree) + "rules 9 and 12: a loop over an array", TypeKind.ARRAY.toString(), over.getKind().toString());
        return super.visitEnhancedForLoop(tree, none);
    }
}
