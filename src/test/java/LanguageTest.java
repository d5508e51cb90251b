import com.sun.source.tree.AnnotationTree;
import com.sun.source.tree.ArrayAccessTree;
import com.sun.source.tree.AssertTree;
import com.sun.source.tree.AssignmentTree;
import com.sun.source.tree.BinaryTree;
import com.sun.source.tree.ClassTree;
import com.sun.source.tree.CompilationUnitTree;
import com.sun.source.tree.CompoundAssignmentTree;
import com.sun.source.tree.DoWhileLoopTree;
import com.sun.source.tree.ExpressionTree;
import com.sun.source.tree.ForLoopTree;
import com.sun.source.tree.LambdaExpressionTree;
import com.sun.source.tree.LiteralTree;
import com.sun.source.tree.MemberReferenceTree;
import com.sun.source.tree.MethodInvocationTree;
import com.sun.source.tree.MethodTree;
import com.sun.source.tree.NewArrayTree;
import com.sun.source.tree.NewClassTree;
import com.sun.source.tree.SynchronizedTree;
import com.sun.source.tree.ThrowTree;
import com.sun.source.tree.Tree;
import com.sun.source.tree.TryTree;
import com.sun.source.tree.TypeCastTree;
import com.sun.source.tree.UnaryTree;
import com.sun.source.tree.VariableTree;
import com.sun.source.tree.WhileLoopTree;
import com.sun.source.util.JavacTask;
import com.sun.source.util.SourcePositions;
import com.sun.source.util.TreePathScanner;
import com.sun.source.util.Trees;
import java.io.IOException;
import java.nio.file.Path;
import java.util.HashMap;
import java.util.HashSet;
import java.util.List;
import java.util.Map;
import java.util.Set;
import java.util.TreeSet;
import javax.lang.model.element.Element;
import javax.lang.model.element.ElementKind;
import javax.lang.model.element.Modifier;
import javax.lang.model.type.TypeKind;
import javax.lang.model.type.TypeMirror;
import javax.tools.JavaCompiler;
import javax.tools.StandardJavaFileManager;
import javax.tools.ToolProvider;

/**
 * LANGUAGE.md, rule by rule, as far as the compiler's own tree of the class shows it; FaceTest has rule 1.
 *
 * Narrower than LANGUAGE.md where the class does not use what it allows (lists, doubles, null, recursion, objects made by a
 * call): who needs it, widens the check, and counts anew what a run makes.
 */
public final class LanguageTest extends TreePathScanner<Void, Void> {
    private static final int MOST_CLASSES = 12;
    private static final int MOST_FIELDS = 20;
    private static final int MOST_PARAMETERS = 7;
    private static final int MOST_LINES = 60;
    private static final int DEEPEST = 8;

    /** Rule 4, or less: what of the library the class uses, or might, over numbers and constants of String. */
    private static final Set<String> LIBRARY = Set.of(
        "java.lang.String.length", "java.lang.String.charAt", "java.lang.Math.min", "java.lang.Math.max", "java.lang.Math.abs",
        "java.lang.Math.floorDiv", "java.lang.Math.floorMod", "java.lang.Integer.compare", "java.lang.Integer.bitCount",
        "java.lang.System.arraycopy", "java.util.Arrays.fill", "java.util.Arrays.copyOf", "java.util.Arrays.copyOfRange");
    private static final Set<String> NUMBERS = Set.of("int", "long", "short", "byte", "char", "boolean");
    private static final Set<String> CONSTANTS = Set.of("int", "long", "boolean", "char", "java.lang.String");
    private static final Set<String> CONSTANT_ROWS = Set.of("int[]", "long[]", "char[]", "byte[]");

    private final CompilationUnitTree unit;
    private final Trees trees;
    private final SourcePositions places;
    private final Map<String, Set<String>> calls = new HashMap<>();
    private String method = "";
    private int classes = 0;

    private LanguageTest(CompilationUnitTree unit, Trees trees) {
        this.unit = unit;
        this.trees = trees;
        this.places = trees.getSourcePositions();
    }

    public static void main(String[] args) throws IOException {
        String file = args.length > 0 ? args[0] : "src/main/java/WaveHouse.java";
        JavaCompiler compiler = ToolProvider.getSystemJavaCompiler();
        try (StandardJavaFileManager files = compiler.getStandardFileManager(null, null, null)) {
            JavacTask task = (JavacTask) compiler.getTask(null, files, null, List.of("--release", "17", "-proc:none"), null,
                files.getJavaFileObjects(Path.of(file)));
            CompilationUnitTree unit = task.parse().iterator().next();
            task.analyze();
            LanguageTest test = new LanguageTest(unit, Trees.instance(task));
            test.scan(unit, null);
            Due.is("classes: " + test.classes, test.classes <= MOST_CLASSES, true);
            test.depths();
        }
        Due.end();
    }

    private long line(long place) {
        return unit.getLineMap().getLineNumber(place);
    }

    private void no(int rule, String what, Tree tree) {
        right(rule, what, tree, false);
    }

    private void right(int rule, String what, Tree tree, boolean is) {
        Due.is("rule " + rule + ", line " + line(places.getStartPosition(unit, tree)) + ": " + what, is, true);
    }

    private Element element() {
        return trees.getElement(getCurrentPath());
    }

    private TypeMirror type(Tree tree) {
        return trees.getTypeMirror(trees.getPath(unit, tree));
    }

    private static boolean isOwn(String name) {
        return name.equals("WaveHouse") || name.startsWith("WaveHouse.");
    }

    // Rules 2, 5, 11: classes

    @Override
    public Void visitClass(ClassTree tree, Void none) {
        classes++;
        Element element = element();
        boolean nested = element.getEnclosingElement().getKind() == ElementKind.CLASS;
        boolean top = element.getEnclosingElement().getKind() == ElementKind.PACKAGE;
        right(2, "a class in a method", tree, nested || top);
        right(2, "a class that is not static", tree, top || element.getModifiers().contains(Modifier.STATIC));
        right(2, "a class without a name", tree, !tree.getSimpleName().isEmpty());
        int fields = 0;
        for (Tree member : tree.getMembers()) {
            right(5, "a block of its own", member, member.getKind() != Tree.Kind.BLOCK);
            if (member instanceof VariableTree field && !field.getModifiers().getFlags().contains(Modifier.STATIC)) {
                fields++;
            }
        }
        right(11, fields + " fields", tree, fields <= MOST_FIELDS);
        return super.visitClass(tree, none);
    }

    // Rules 3 and 5: fields and types

    @Override
    public Void visitVariable(VariableTree tree, Void none) {
        String type = element().asType().toString();
        right(3, type, tree, isType(type));
        if (element().getKind() == ElementKind.FIELD && element().getModifiers().contains(Modifier.STATIC)) {
            right(5, "a static field that is not final", tree, element().getModifiers().contains(Modifier.FINAL));
            boolean row = CONSTANT_ROWS.contains(type) && tree.getInitializer() instanceof NewArrayTree made
                && made.getInitializers() != null;
            right(5, "a static field of " + type, tree, CONSTANTS.contains(type) || row);
        }
        return super.visitVariable(tree, none);
    }

    private static boolean isType(String type) {
        String plain = type.endsWith("[]") ? type.substring(0, type.length() - 2) : type;
        boolean ofTwo = plain.endsWith("[]");
        String base = ofTwo ? plain.substring(0, plain.length() - 2) : plain;
        if (NUMBERS.contains(base)) {
            return true;
        }
        return !ofTwo && isOwn(base) || base.equals("java.lang.String") && base.equals(type);
    }

    // Rules 11 and 12: methods, and where objects are made

    @Override
    public Void visitMethod(MethodTree tree, Void none) {
        right(11, tree.getParameters().size() + " parameters", tree, tree.getParameters().size() <= MOST_PARAMETERS);
        long lines = line(places.getEndPosition(unit, tree)) - line(Math.max(places.getStartPosition(unit, tree), 0)) + 1;
        right(11, lines + " lines", tree, lines <= MOST_LINES);
        String outer = method;
        method = element().getEnclosingElement() + "." + element();
        calls.put(method, new TreeSet<>());
        super.visitMethod(tree, none);
        method = outer;
        return null;
    }

    private boolean makes() {
        return method.isEmpty() || method.contains("(") && method.matches("(.*\\.)?(\\w+)\\.\\2\\(.*");
    }

    @Override
    public Void visitNewArray(NewArrayTree tree, Void none) {
        right(12, "a call that makes a row", tree, makes());
        return super.visitNewArray(tree, none);
    }

    @Override
    public Void visitNewClass(NewClassTree tree, Void none) {
        right(12, "a call that makes an object", tree, makes());
        right(4, "new " + tree.getIdentifier(), tree, isOwn(type(tree).toString()));
        right(2, "a class without a name", tree, tree.getClassBody() == null);
        return super.visitNewClass(tree, none);
    }

    // Rules 4, 8 and 13: calls

    @Override
    public Void visitMethodInvocation(MethodInvocationTree tree, Void none) {
        Element called = element();
        String owner = called.getEnclosingElement().toString();
        if (!isOwn(owner)) {
            boolean base = called.getKind() == ElementKind.CONSTRUCTOR && owner.equals("java.lang.Object");
            right(4, owner + "." + called, tree, base || LIBRARY.contains(owner + "." + called.getSimpleName()));
        } else if (calls.containsKey(method)) {
            calls.get(method).add(owner + "." + called);
        }
        return super.visitMethodInvocation(tree, none);
    }

    /** No method calls itself, not by way of others, either, so each has a depth. */
    private void depths() {
        for (String start : new TreeSet<>(calls.keySet())) {
            int depth = depth(start, new HashSet<>());
            Due.is("rules 8, 11: " + start + " goes " + depth + " calls deep", depth <= DEEPEST, true);
        }
    }

    private int depth(String start, Set<String> open) {
        if (!open.add(start)) {
            Due.is("rule 8: " + start + " calls itself", true, false);
            return DEEPEST + 1;
        }
        int most = 0;
        for (String next : calls.getOrDefault(start, Set.of())) {
            most = Math.max(most, depth(next, open));
        }
        open.remove(start);
        return most + 1;
    }

    // Rule 6

    @Override
    public Void visitThrow(ThrowTree tree, Void none) {
        no(6, "throw", tree);
        return super.visitThrow(tree, none);
    }

    @Override
    public Void visitTry(TryTree tree, Void none) {
        no(6, "try", tree);
        return super.visitTry(tree, none);
    }

    @Override
    public Void visitSynchronized(SynchronizedTree tree, Void none) {
        no(6, "synchronized", tree);
        return super.visitSynchronized(tree, none);
    }

    @Override
    public Void visitAssert(AssertTree tree, Void none) {
        no(6, "assert", tree);
        return super.visitAssert(tree, none);
    }

    @Override
    public Void visitAnnotation(AnnotationTree tree, Void none) {
        no(4, "" + tree, tree);
        return super.visitAnnotation(tree, none);
    }

    @Override
    public Void visitTypeCast(TypeCastTree tree, Void none) {
        right(6, "a cast that is none of numbers", tree, type(tree).getKind().isPrimitive());
        return super.visitTypeCast(tree, none);
    }

    @Override
    public Void visitLambdaExpression(LambdaExpressionTree tree, Void none) {
        no(2, "a lambda", tree);
        return super.visitLambdaExpression(tree, none);
    }

    @Override
    public Void visitMemberReference(MemberReferenceTree tree, Void none) {
        no(2, "a method reference", tree);
        return super.visitMemberReference(tree, none);
    }

    // Rules 3, 6, 7 and 10: reckoning

    @Override
    public Void visitBinary(BinaryTree tree, Void none) {
        right(10, "texts joined by a sign", tree, type(tree).getKind().isPrimitive());
        boolean compares = tree.getKind() == Tree.Kind.EQUAL_TO || tree.getKind() == Tree.Kind.NOT_EQUAL_TO;
        boolean text = type(tree.getLeftOperand()).toString().equals("java.lang.String");
        right(6, "two Strings compared", tree, !compares || !text);
        boolean divides = tree.getKind() == Tree.Kind.DIVIDE || tree.getKind() == Tree.Kind.REMAINDER;
        right(7, "a divisor that is no constant", tree, !divides || isConstant(tree.getRightOperand()));
        return super.visitBinary(tree, none);
    }

    private boolean isConstant(ExpressionTree tree) {
        if (tree instanceof LiteralTree literal) {
            return !Integer.valueOf(0).equals(literal.getValue());
        }
        Element named = trees.getElement(trees.getPath(unit, tree));
        return named != null && named.getModifiers().containsAll(Set.of(Modifier.STATIC, Modifier.FINAL));
    }

    @Override
    public Void visitCompoundAssignment(CompoundAssignmentTree tree, Void none) {
        boolean divides = tree.getKind() == Tree.Kind.DIVIDE_ASSIGNMENT || tree.getKind() == Tree.Kind.REMAINDER_ASSIGNMENT;
        right(7, "a divisor that is no constant", tree, !divides || isConstant(tree.getExpression()));
        keepsConstants(tree, tree.getVariable());
        return super.visitCompoundAssignment(tree, none);
    }

    @Override
    public Void visitAssignment(AssignmentTree tree, Void none) {
        keepsConstants(tree, tree.getVariable());
        return super.visitAssignment(tree, none);
    }

    @Override
    public Void visitUnary(UnaryTree tree, Void none) {
        boolean changes = tree.getKind() != Tree.Kind.UNARY_MINUS && tree.getKind() != Tree.Kind.UNARY_PLUS
            && tree.getKind() != Tree.Kind.LOGICAL_COMPLEMENT && tree.getKind() != Tree.Kind.BITWISE_COMPLEMENT;
        if (changes) {
            keepsConstants(tree, tree.getExpression());
        }
        return super.visitUnary(tree, none);
    }

    private void keepsConstants(Tree tree, ExpressionTree target) {
        if (target instanceof ArrayAccessTree row) {
            Element named = trees.getElement(trees.getPath(unit, row.getExpression()));
            right(5, "a constant row is changed", tree, named == null || !named.getModifiers().contains(Modifier.STATIC));
        }
    }

    // Rule 9: loops

    @Override
    public Void visitForLoop(ForLoopTree tree, Void none) {
        right(9, "a loop without a counter's bound", tree, tree.getCondition() != null && bounds(tree.getCondition())
            && !tree.getUpdate().isEmpty());
        return super.visitForLoop(tree, none);
    }

    @Override
    public Void visitWhileLoop(WhileLoopTree tree, Void none) {
        right(9, "a loop without a counter's bound", tree, bounds(tree.getCondition()));
        return super.visitWhileLoop(tree, none);
    }

    @Override
    public Void visitDoWhileLoop(DoWhileLoopTree tree, Void none) {
        right(9, "a loop without a counter's bound", tree, bounds(tree.getCondition()));
        return super.visitDoWhileLoop(tree, none);
    }

    /** Of what is joined by &&, one part compares two numbers by their size. */
    private static boolean bounds(ExpressionTree condition) {
        String text = condition.toString();
        for (String part : text.replaceAll("^\\((.*)\\)$", "$1").split("&&")) {
            if (!part.contains("||") && part.matches(".*[^<>]\\s(<|<=|>|>=)\\s[^<>].*")) {
                return true;
            }
        }
        return false;
    }

    @Override
    public Void visitLiteral(LiteralTree tree, Void none) {
        if (tree.getValue() instanceof String text) {
            right(4, "a constant with another sign", tree, text.chars().allMatch(c -> c >= 1 && c <= 127));
        }
        right(7, "null: references are used without a look at it", tree, type(tree).getKind() != TypeKind.NULL);
        return super.visitLiteral(tree, none);
    }
}
