import com.sun.source.tree.ArrayAccessTree;
import com.sun.source.tree.AssertTree;
import com.sun.source.tree.BinaryTree;
import com.sun.source.tree.ClassTree;
import com.sun.source.tree.CompilationUnitTree;
import com.sun.source.tree.ExpressionTree;
import com.sun.source.tree.ForLoopTree;
import com.sun.source.tree.IdentifierTree;
import com.sun.source.tree.ImportTree;
import com.sun.source.tree.LambdaExpressionTree;
import com.sun.source.tree.LineMap;
import com.sun.source.tree.LiteralTree;
import com.sun.source.tree.MemberReferenceTree;
import com.sun.source.tree.MemberSelectTree;
import com.sun.source.tree.MethodInvocationTree;
import com.sun.source.tree.MethodTree;
import com.sun.source.tree.NewArrayTree;
import com.sun.source.tree.NewClassTree;
import com.sun.source.tree.SynchronizedTree;
import com.sun.source.tree.ThrowTree;
import com.sun.source.tree.Tree;
import com.sun.source.tree.TryTree;
import com.sun.source.tree.TypeCastTree;
import com.sun.source.tree.VariableTree;
import com.sun.source.tree.WhileLoopTree;
import com.sun.source.util.JavacTask;
import com.sun.source.util.SourcePositions;
import com.sun.source.util.TreePath;
import com.sun.source.util.TreePathScanner;
import com.sun.source.util.Trees;
import java.io.IOException;
import java.nio.file.Files;
import java.nio.file.Path;
import java.util.ArrayList;
import java.util.HashMap;
import java.util.HashSet;
import java.util.LinkedHashSet;
import java.util.List;
import java.util.Map;
import java.util.Set;
import javax.lang.model.element.Element;
import javax.lang.model.element.ElementKind;
import javax.lang.model.element.ExecutableElement;
import javax.lang.model.element.Modifier;
import javax.lang.model.element.TypeElement;
import javax.lang.model.type.ArrayType;
import javax.lang.model.type.TypeMirror;
import javax.tools.JavaCompiler;
import javax.tools.StandardJavaFileManager;
import javax.tools.ToolProvider;

/**
 * LANGUAGE.md's rules, as far as they can be seen in javac's tree of the class. Some rows are narrower than the rule:
 * they hold the class to the few shapes that it uses, so that a new one is looked at before it lands.
 */
public final class LanguageTest extends TreePathScanner<Void, Void> {
    private static final Set<String> LIBRARY = Set.of("java.util.Arrays.fill", "java.util.Arrays.copyOf",
        "java.util.Arrays.copyOfRange", "java.lang.System.arraycopy", "java.lang.Math.min", "java.lang.Math.max",
        "java.lang.Math.abs");
    private static final Set<String> PLAIN_TYPES = Set.of("int", "long", "short", "byte", "char", "boolean", "void");
    private static final int MOST_LINES = 60, MOST_PARAMETERS = 7, MOST_CLASSES = 12, MOST_FIELDS = 20, MOST_DEEP = 8;

    private final Check k = new Check("LanguageTest");
    private final String text;
    private final CompilationUnitTree unit;
    private final Trees trees;
    private final JavacTask task;
    private final List<TypeElement> classes = new ArrayList<>();
    private final Map<ExecutableElement, Set<ExecutableElement>> calls = new HashMap<>();
    // Those of calls whose body is the object's kind to say: all but those behind super.
    private final Map<ExecutableElement, Set<ExecutableElement>> callsByKind = new HashMap<>();

    private LanguageTest(Path source) throws IOException {
        text = Files.readString(source);
        JavaCompiler javac = ToolProvider.getSystemJavaCompiler();
        try (StandardJavaFileManager files = javac.getStandardFileManager(null, null, null)) {
            task = (JavacTask) javac.getTask(null, files, null, List.of("--release", "17", "-proc:none"), null,
                files.getJavaFileObjects(source));
            unit = task.parse().iterator().next();
            task.analyze();
            trees = Trees.instance(task);
        }
    }

    private void rule(int number, boolean kept, String what) {
        k.part("rule " + number);
        k.isTrue(kept, what);
    }

    // ---- where a tree stands

    private String of(Tree t) {
        SourcePositions p = trees.getSourcePositions();
        return text.substring((int) p.getStartPosition(unit, t), (int) p.getEndPosition(unit, t));
    }

    private int lines(Tree t) {
        SourcePositions p = trees.getSourcePositions();
        LineMap map = unit.getLineMap();
        long first = map.getLineNumber(p.getStartPosition(unit, t));
        return (int) (map.getLineNumber(p.getEndPosition(unit, t)) - first + 1);
    }

    private TreePath around(Tree.Kind kind) {
        TreePath p = getCurrentPath();
        while (p != null && p.getLeaf().getKind() != kind) {
            p = p.getParentPath();
        }
        return p;
    }

    /** The text of the method that stands around, or nothing. */
    private String method() {
        TreePath p = around(Tree.Kind.METHOD);
        return p == null ? "" : of(p.getLeaf());
    }

    private boolean inConstructorOrField() {
        TreePath p = around(Tree.Kind.METHOD);
        return p == null || ((MethodTree) p.getLeaf()).getReturnType() == null;
    }

    private boolean isOwn(Element e) {
        return e instanceof TypeElement && e.toString().startsWith("OilPush");
    }

    // ---- 1, 2, 5, 11: classes, members

    @Override
    public Void visitClass(ClassTree t, Void nothing) {
        TypeElement e = (TypeElement) trees.getElement(getCurrentPath());
        classes.add(e);
        boolean outer = e.getSimpleName().contentEquals("OilPush");
        rule(2, outer || e.getModifiers().contains(Modifier.STATIC), "a static class: " + e);
        rule(2, outer || getCurrentPath().getParentPath().getLeaf() instanceof ClassTree, "no local class: " + e);
        rule(1, outer || !e.getModifiers().contains(Modifier.PUBLIC) && !e.getModifiers().contains(Modifier.PROTECTED),
            "a private or package-visible class: " + e);
        int fields = 0;
        for (Tree member : t.getMembers()) {
            rule(5, member.getKind() != Tree.Kind.BLOCK, "no initialiser block in " + e);
            if (member instanceof VariableTree v && !v.getModifiers().getFlags().contains(Modifier.STATIC)) {
                fields++;
            }
        }
        rule(11, fields <= MOST_FIELDS, "at most " + MOST_FIELDS + " fields in " + e + ": " + fields);
        return super.visitClass(t, nothing);
    }

    @Override
    public Void visitMethod(MethodTree t, Void nothing) {
        ExecutableElement e = (ExecutableElement) trees.getElement(getCurrentPath());
        calls.putIfAbsent(e, new LinkedHashSet<>());
        rule(11, t.getParameters().size() <= MOST_PARAMETERS, "at most seven parameters: " + e);
        // A constructor that javac adds has no lines of its own.
        boolean written = trees.getSourcePositions().getEndPosition(unit, t) >= 0;
        rule(11, !written || lines(t) <= MOST_LINES, "at most sixty lines: " + e);
        rule(6, t.getThrows().isEmpty(), "no throws: " + e);
        return super.visitMethod(t, nothing);
    }

    @Override
    public Void visitVariable(VariableTree t, Void nothing) {
        Element e = trees.getElement(getCurrentPath());
        boolean still = e.getKind() == ElementKind.FIELD && e.getModifiers().contains(Modifier.STATIC);
        rule(5, !still || e.getModifiers().contains(Modifier.FINAL) && PLAIN_TYPES.contains(e.asType().toString()),
            "a static field is a constant number: " + e);
        rule(3, isPlain(e.asType()), "a type of the language's part: " + e.asType() + " " + e);
        if (t.getInitializer() instanceof MethodInvocationTree && isOwn(task.getTypes().asElement(e.asType()))) {
            rule(7, method().contains(e + " == null") || method().contains(e + " != null"), "against null: " + of(t));
        }
        return super.visitVariable(t, nothing);
    }

    private boolean isPlain(TypeMirror type) {
        if (type instanceof ArrayType a) {
            return !(a.getComponentType() instanceof ArrayType) && isPlain(a.getComponentType());
        }
        return PLAIN_TYPES.contains(type.toString()) || isOwn(task.getTypes().asElement(type));
    }

    // ---- 2, 6, 10: what is ruled out

    private Void out(int number, Tree t) {
        rule(number, false, "ruled out: " + of(t));
        return null;
    }

    @Override
    public Void visitLambdaExpression(LambdaExpressionTree t, Void nothing) {
        return out(2, t);
    }

    @Override
    public Void visitMemberReference(MemberReferenceTree t, Void nothing) {
        return out(2, t);
    }

    @Override
    public Void visitThrow(ThrowTree t, Void nothing) {
        return out(6, t);
    }

    @Override
    public Void visitTry(TryTree t, Void nothing) {
        return out(6, t);
    }

    @Override
    public Void visitSynchronized(SynchronizedTree t, Void nothing) {
        return out(6, t);
    }

    @Override
    public Void visitAssert(AssertTree t, Void nothing) {
        return out(6, t);
    }

    @Override
    public Void visitTypeCast(TypeCastTree t, Void nothing) {
        rule(6, PLAIN_TYPES.contains(t.getType().toString()), "only numbers are cast: " + of(t));
        return super.visitTypeCast(t, nothing);
    }

    @Override
    public Void visitLiteral(LiteralTree t, Void nothing) {
        rule(4, !(t.getValue() instanceof String), "no texts: " + t);
        return super.visitLiteral(t, nothing);
    }

    // ---- 7: an index is looked at before it is used, a divisor before it divides, a reference against null

    @Override
    public Void visitArrayAccess(ArrayAccessTree t, Void nothing) {
        String length = of(t.getExpression()) + ".length";
        String i = of(t.getIndex());
        String around = method();
        boolean below = around.contains(i + " < " + length) || around.contains(i + " >= " + length);
        boolean above = around.contains(i + " >= 0") || around.contains(i + " < 0")
            || around.contains("int " + i + " = 0");
        rule(7, below && above, "the index is looked at: " + of(t));
        return super.visitArrayAccess(t, nothing);
    }

    @Override
    public Void visitMemberSelect(MemberSelectTree t, Void nothing) {
        Tree.Kind of = t.getExpression().getKind();
        boolean nameless = of == Tree.Kind.METHOD_INVOCATION || of == Tree.Kind.ARRAY_ACCESS;
        rule(7, !nameless, "what may be null has a name, and is looked at: " + of(t));
        return super.visitMemberSelect(t, nothing);
    }

    @Override
    public Void visitBinary(BinaryTree t, Void nothing) {
        if (t.getKind() == Tree.Kind.DIVIDE || t.getKind() == Tree.Kind.REMAINDER) {
            ExpressionTree by = t.getRightOperand();
            boolean constant = by instanceof LiteralTree l && !l.getValue().equals(0);
            rule(7, constant || method().contains(of(by) + " <= 0"), "the divisor is looked at: " + of(t));
        }
        return super.visitBinary(t, nothing);
    }

    // ---- 9: loops

    @Override
    public Void visitForLoop(ForLoopTree t, Void nothing) {
        rule(9, t.getCondition() != null && t.getUpdate().size() == 1, "a counter against a bound: " + of(t));
        return super.visitForLoop(t, nothing);
    }

    @Override
    public Void visitWhileLoop(WhileLoopTree t, Void nothing) {
        String condition = of(t.getCondition());
        rule(9, condition.matches("\\(\\w+ > 0 && .*\\)") && of(t.getStatement()).contains("--;"),
            "a counter that falls to 0: " + condition);
        return super.visitWhileLoop(t, nothing);
    }

    // ---- 12: what is made

    @Override
    public Void visitNewClass(NewClassTree t, Void nothing) {
        rule(2, t.getClassBody() == null, "no class without a name: " + of(t));
        boolean byCylinder = method().startsWith("boolean add(int kind,");
        rule(12, inConstructorOrField() || byCylinder, "made by a constructor, or a new CYLINDER: " + of(t));
        return super.visitNewClass(t, nothing);
    }

    @Override
    public Void visitNewArray(NewArrayTree t, Void nothing) {
        boolean counted = t.getDimensions().size() == 1 && of(t.getDimensions().get(0)).startsWith("MOST_");
        rule(12, inConstructorOrField() && counted, "rows are made by constructors, of a limit's length: " + of(t));
        return super.visitNewArray(t, nothing);
    }

    // ---- 4, 8, 11, 13: calls

    @Override
    public Void visitImport(ImportTree t, Void nothing) {
        rule(4, of(t).equals("import java.util.Arrays;"), of(t));
        return null;
    }

    @Override
    public Void visitMethodInvocation(MethodInvocationTree t, Void nothing) {
        ExecutableElement called = (ExecutableElement) trees.getElement(getCurrentPath());
        Element owner = called.getEnclosingElement();
        boolean made = called.getKind() == ElementKind.CONSTRUCTOR;
        TreePath from = around(Tree.Kind.METHOD);
        if (isOwn(owner) && from != null) {
            boolean inConstructor = ((MethodTree) from.getLeaf()).getReturnType() == null;
            rule(12, made || !inConstructor, "a constructor calls no method: " + of(t));
            boolean fixed = t.getMethodSelect() instanceof MemberSelectTree s
                && s.getExpression() instanceof IdentifierTree id && id.getName().contentEquals("super");
            ExecutableElement caller = (ExecutableElement) trees.getElement(from);
            (fixed ? calls : callsByKind).computeIfAbsent(caller, c -> new LinkedHashSet<>()).add(called);
        }
        if (!isOwn(owner) && !made) {
            String name = owner + "." + called.getSimpleName();
            rule(4, LIBRARY.contains(name), "a call of the library: " + name);
        }
        return super.visitMethodInvocation(t, nothing);
    }

    private Set<ExecutableElement> comeTo(ExecutableElement from) {
        Set<ExecutableElement> found = new LinkedHashSet<>(calls.get(from));
        for (ExecutableElement to : callsByKind.getOrDefault(from, Set.of())) {
            found.add(to);
            for (ExecutableElement other : calls.keySet()) {
                if (task.getElements().overrides(other, to, (TypeElement) other.getEnclosingElement())) {
                    found.add(other);
                }
            }
        }
        return found;
    }

    /** How many calls stand open at once from here on; far too many, where one comes back to itself. */
    private int deep(ExecutableElement from, Set<ExecutableElement> open) {
        if (!open.add(from)) {
            return 1000;
        }
        int most = 0;
        for (ExecutableElement to : comeTo(from)) {
            most = Math.max(most, deep(to, open));
        }
        open.remove(from);
        return 1 + most;
    }

    private void depth() {
        for (ExecutableElement from : calls.keySet()) {
            int deep = deep(from, new HashSet<>());
            rule(8, deep < 1000, "no recursion: " + from);
            rule(11, deep <= MOST_DEEP, "at most eight calls deep: " + deep + " from " + from);
        }
    }

    // ---- 1: names

    private void names() {
        Set<String> open = new HashSet<>();
        Set<String> own = new HashSet<>();
        for (ExecutableElement e : calls.keySet()) {
            if (e.getKind() == ElementKind.METHOD) {
                (e.getModifiers().contains(Modifier.PUBLIC) ? open : own).add(e.getSimpleName().toString());
            }
        }
        for (String name : own) {
            rule(1, !open.contains(name), "no method inside bears a public one's name: " + name);
        }
        rule(1, open.size() == 30, "30 public methods: " + open);
    }

    public static void main(String[] args) throws IOException {
        LanguageTest t = new LanguageTest(Path.of(args.length > 0 ? args[0] : "src/main/java/OilPush.java"));
        t.rule(1, t.unit.getPackage() == null, "no package line");
        t.scan(t.unit, null);
        t.depth();
        t.names();
        t.rule(11, t.classes.size() <= MOST_CLASSES, "at most twelve classes: " + t.classes.size());
        t.k.end();
    }
}
