import com.sun.source.tree.BinaryTree;
import com.sun.source.tree.BlockTree;
import com.sun.source.tree.ClassTree;
import com.sun.source.tree.CompilationUnitTree;
import com.sun.source.tree.ConditionalExpressionTree;
import com.sun.source.tree.ExpressionTree;
import com.sun.source.tree.ForLoopTree;
import com.sun.source.tree.LineMap;
import com.sun.source.tree.MethodInvocationTree;
import com.sun.source.tree.MethodTree;
import com.sun.source.tree.NewArrayTree;
import com.sun.source.tree.NewClassTree;
import com.sun.source.tree.Tree;
import com.sun.source.tree.VariableTree;
import com.sun.source.util.JavacTask;
import com.sun.source.util.SourcePositions;
import com.sun.source.util.TreePath;
import com.sun.source.util.TreePathScanner;
import com.sun.source.util.Trees;
import java.io.IOException;
import java.nio.file.Path;
import java.util.ArrayList;
import java.util.EnumSet;
import java.util.LinkedHashMap;
import java.util.LinkedHashSet;
import java.util.List;
import java.util.Map;
import java.util.Set;
import javax.lang.model.element.Element;
import javax.lang.model.element.ElementKind;
import javax.lang.model.element.ExecutableElement;
import javax.lang.model.element.Modifier;
import javax.lang.model.element.VariableElement;
import javax.tools.JavaCompiler;
import javax.tools.StandardJavaFileManager;
import javax.tools.ToolProvider;

/**
 * The rules of LANGUAGE.md that the compiler's tree shows: how deep calls go,
 * what of the library is called, where objects are made, how loops end. What the
 * rules allow and the class does without is refused here too, as no rule about
 * it is tested.
 */
public final class RulesTest extends TreePathScanner<Void, Void> {
    private static final int MOST_DEEP = 8;
    private static final int MOST_PARAMETERS = 7;
    private static final int MOST_LINES = 60;
    private static final int MOST_CLASSES = 12;
    private static final int MOST_FIELDS = 20;
    private static final Set<String> LIBRARY = Set.of(
            "java.lang.Math.max", "java.lang.Math.min", "java.lang.Long.bitCount", "java.lang.System.arraycopy",
            "java.lang.Object.<init>");
    private static final Set<String> TYPES = Set.of(
            "int", "long", "boolean", "char", "void", "int[]", "long[]", "CycleTimetable.State",
            "CycleTimetable.State[]", "CycleTimetable.Text", "CycleTimetable.Numbers", "CycleTimetable.Sets");
    private static final Set<String> CONSTANTS = Set.of("int", "long", "boolean", "char", "java.lang.String");
    private static final Set<Tree.Kind> FORBIDDEN = EnumSet.of(
            Tree.Kind.THROW, Tree.Kind.TRY, Tree.Kind.CATCH, Tree.Kind.SYNCHRONIZED, Tree.Kind.ASSERT,
            Tree.Kind.LAMBDA_EXPRESSION, Tree.Kind.MEMBER_REFERENCE, Tree.Kind.SWITCH_EXPRESSION,
            Tree.Kind.BINDING_PATTERN, Tree.Kind.ANNOTATION, Tree.Kind.IMPORT, Tree.Kind.PACKAGE,
            Tree.Kind.TYPE_CAST, Tree.Kind.WHILE_LOOP, Tree.Kind.DO_WHILE_LOOP, Tree.Kind.STRING_LITERAL,
            Tree.Kind.DOUBLE_LITERAL, Tree.Kind.FLOAT_LITERAL);

    private final Trees trees;
    private final SourcePositions positions;
    private final CompilationUnitTree unit;
    private final LineMap lines;
    private final Map<Element, Set<Element>> calls = new LinkedHashMap<>();
    private int classes = 0;

    private RulesTest(Trees trees, CompilationUnitTree unit) {
        this.trees = trees;
        this.positions = trees.getSourcePositions();
        this.unit = unit;
        this.lines = unit.getLineMap();
    }

    public static void main(String[] args) throws IOException {
        JavaCompiler compiler = ToolProvider.getSystemJavaCompiler();
        try (StandardJavaFileManager files = compiler.getStandardFileManager(null, null, null)) {
            JavacTask task = (JavacTask) compiler.getTask(null, files, null, List.of("-proc:none"), null,
                    files.getJavaFileObjects(Path.of("src/main/java/CycleTimetable.java")));
            CompilationUnitTree unit = task.parse().iterator().next();
            task.analyze();
            RulesTest rules = new RulesTest(Trees.instance(task), unit);
            rules.scan(unit, null);
            rules.callsGoNotTooDeep();
        }
        Check.end();
    }

    private void must(boolean holds, Tree where, String what) {
        Check.must(holds, "line " + lines.getLineNumber(positions.getStartPosition(unit, where)) + ": " + what);
    }

    @Override
    public Void scan(Tree tree, Void nothing) {
        if (tree != null) {
            must(!FORBIDDEN.contains(tree.getKind()), tree, "forbidden: " + tree.getKind());
        }
        return super.scan(tree, nothing);
    }

    // ---- classes, their fields and their methods

    @Override
    public Void visitClass(ClassTree tree, Void nothing) {
        classes++;
        must(classes <= MOST_CLASSES, tree, "more than " + MOST_CLASSES + " classes");
        Element owner = trees.getElement(getCurrentPath()).getEnclosingElement();
        Set<Modifier> modifiers = tree.getModifiers().getFlags();
        if (owner.getKind() == ElementKind.PACKAGE) {
            must(tree.getSimpleName().contentEquals("CycleTimetable"), tree, "another class outside");
        } else {
            must(owner.getKind().isClass() && modifiers.contains(Modifier.STATIC), tree, "a class that is not static");
            must(!modifiers.contains(Modifier.PUBLIC) && !modifiers.contains(Modifier.PROTECTED), tree, "a visible class");
        }
        int fields = 0;
        for (Tree member : tree.getMembers()) {
            boolean isField = member instanceof VariableTree;
            fields += isField && !((VariableTree) member).getModifiers().getFlags().contains(Modifier.STATIC) ? 1 : 0;
            must(!(member instanceof BlockTree), member, "a block of a class");
        }
        must(fields <= MOST_FIELDS, tree, fields + " fields");
        return super.visitClass(tree, nothing);
    }

    @Override
    public Void visitVariable(VariableTree tree, Void nothing) {
        VariableElement variable = (VariableElement) trees.getElement(getCurrentPath());
        String type = variable.asType().toString();
        must(TYPES.contains(type), tree, "a variable of type " + type);
        if (variable.getModifiers().contains(Modifier.STATIC)) {
            must(variable.getModifiers().contains(Modifier.FINAL), tree, "static state");
            must(CONSTANTS.contains(type) && variable.getConstantValue() != null, tree, "no constant: " + variable);
        }
        return super.visitVariable(tree, nothing);
    }

    @Override
    public Void visitMethod(MethodTree tree, Void nothing) {
        ExecutableElement method = (ExecutableElement) trees.getElement(getCurrentPath());
        calls.putIfAbsent(method, new LinkedHashSet<>());
        must(TYPES.contains(method.getReturnType().toString()), tree, "a method of type " + method.getReturnType());
        must(tree.getParameters().size() <= MOST_PARAMETERS, tree, "more than " + MOST_PARAMETERS + " parameters");
        must(tree.getThrows().isEmpty(), tree, "throws");
        long first = lines.getLineNumber(positions.getStartPosition(unit, tree));
        long last = positions.getEndPosition(unit, tree) < 0 ? first
                : lines.getLineNumber(positions.getEndPosition(unit, tree));
        must(last - first < MOST_LINES, tree, "more than " + MOST_LINES + " lines");
        return super.visitMethod(tree, nothing);
    }

    // ---- calls

    @Override
    public Void visitMethodInvocation(MethodInvocationTree tree, Void nothing) {
        called(trees.getElement(getCurrentPath()), tree);
        return super.visitMethodInvocation(tree, nothing);
    }

    /** Objects are made in constructors alone, so that what one keeps is all that it ever makes. */
    @Override
    public Void visitNewClass(NewClassTree tree, Void nothing) {
        must(tree.getClassBody() == null, tree, "a class without a name");
        must(caller().getKind() == ElementKind.CONSTRUCTOR, tree, "an object is made outside of constructors");
        called(trees.getElement(getCurrentPath()), tree);
        return super.visitNewClass(tree, nothing);
    }

    @Override
    public Void visitNewArray(NewArrayTree tree, Void nothing) {
        must(caller().getKind() == ElementKind.CONSTRUCTOR, tree, "an array is made outside of constructors");
        return super.visitNewArray(tree, nothing);
    }

    private Element caller() {
        TreePath path = getCurrentPath();
        while (!(path.getLeaf() instanceof MethodTree)) {
            path = path.getParentPath();
        }
        return trees.getElement(path);
    }

    private void called(Element method, Tree tree) {
        String name = method.getEnclosingElement() + "." + method.getSimpleName();
        must(name.startsWith("CycleTimetable.") || LIBRARY.contains(name), tree, "of the library: " + name);
        calls.computeIfAbsent(caller(), c -> new LinkedHashSet<>()).add(method);
    }

    private void callsGoNotTooDeep() {
        Check.must(calls.size() > 80, "only " + calls.size() + " methods were seen");
        for (Element method : calls.keySet()) {
            List<Element> chain = deepest(method, new ArrayList<>());
            Check.must(chain.size() <= MOST_DEEP, chain.size() + " deep: " + chain);
        }
    }

    /** The longest chain of calls from this method on, those of the library among them. */
    private List<Element> deepest(Element method, List<Element> open) {
        List<Element> longest = new ArrayList<>();
        if (open.contains(method)) {
            Check.must(false, "recursion: " + open);
            return longest;
        }
        open.add(method);
        for (Element called : calls.getOrDefault(method, Set.of())) {
            boolean isObject = called.getEnclosingElement().toString().equals("java.lang.Object");
            List<Element> chain = isObject ? List.of() : deepest(called, open);
            if (chain.size() > longest.size()) {
                longest = new ArrayList<>(chain);
            }
        }
        open.remove(open.size() - 1);
        longest.add(0, method);
        return longest;
    }

    // ---- loops and divisors

    /** A loop counts one number up, which its condition compares. */
    @Override
    public Void visitForLoop(ForLoopTree tree, Void nothing) {
        String end = String.valueOf(tree.getCondition());
        boolean counts = tree.getInitializer().size() == 1 && tree.getUpdate().size() == 1;
        if (counts) {
            String counter = tree.getInitializer().get(0) instanceof VariableTree v ? v.getName().toString() : "?";
            boolean hasEnd = end.startsWith(counter + " < ") || end.startsWith(counter + " <= ");
            counts = hasEnd && tree.getUpdate().get(0).getExpression().toString().equals(counter + "++");
        }
        must(counts, tree, "a loop that does not count: " + end);
        return super.visitForLoop(tree, nothing);
    }

    @Override
    public Void visitBinary(BinaryTree tree, Void nothing) {
        if (tree.getKind() == Tree.Kind.DIVIDE || tree.getKind() == Tree.Kind.REMAINDER) {
            must(isLookedAt(tree.getRightOperand()), tree, "a divisor that is not looked at: " + tree);
        }
        return super.visitBinary(tree, nothing);
    }

    /** Whether a divisor is a constant, or stands behind a question whether it is 0 or less. */
    private boolean isLookedAt(ExpressionTree divisor) {
        Element element = trees.getElement(new TreePath(getCurrentPath(), divisor));
        if (element instanceof VariableElement v && v.getConstantValue() instanceof Integer i && i != 0) {
            return true;
        }
        for (Tree around : getCurrentPath()) {
            if (around instanceof ConditionalExpressionTree c
                    && c.getCondition().toString().equals(divisor + " <= 0")) {
                return true;
            }
        }
        return false;
    }
}
