import com.sun.source.tree.BinaryTree;
import com.sun.source.tree.BlockTree;
import com.sun.source.tree.ClassTree;
import com.sun.source.tree.CompilationUnitTree;
import com.sun.source.tree.DoWhileLoopTree;
import com.sun.source.tree.ForLoopTree;
import com.sun.source.tree.LineMap;
import com.sun.source.tree.MethodInvocationTree;
import com.sun.source.tree.MethodTree;
import com.sun.source.tree.NewArrayTree;
import com.sun.source.tree.NewClassTree;
import com.sun.source.tree.ParenthesizedTree;
import com.sun.source.tree.Tree;
import com.sun.source.tree.VariableTree;
import com.sun.source.tree.WhileLoopTree;
import com.sun.source.util.JavacTask;
import com.sun.source.util.TreePath;
import com.sun.source.util.TreePathScanner;
import com.sun.source.util.Trees;
import java.io.IOException;
import java.nio.file.Path;
import java.util.HashMap;
import java.util.HashSet;
import java.util.List;
import java.util.Map;
import java.util.Set;
import javax.lang.model.element.Element;
import javax.lang.model.element.ElementKind;
import javax.lang.model.element.Modifier;
import javax.lang.model.type.ArrayType;
import javax.lang.model.type.TypeKind;
import javax.lang.model.type.TypeMirror;
import javax.tools.JavaCompiler;
import javax.tools.StandardJavaFileManager;
import javax.tools.ToolProvider;

/** The rules of LANGUAGE.md that the compiler's own tree of the class can tell. */
public final class RulesTest extends TreePathScanner<Void, Void> {
    private static final Path MAIN = Path.of("src/main/java/DeedNames.java");
    /** Rule 4 allows more; the class needs no more than this. */
    private static final Set<String> LIBRARY = Set.of("System.arraycopy", "Math.max", "Math.min", "Integer.bitCount");
    private static final Set<Tree.Kind> FORBIDDEN = Set.of(Tree.Kind.THROW, Tree.Kind.TRY, Tree.Kind.SYNCHRONIZED,
        Tree.Kind.ASSERT, Tree.Kind.LAMBDA_EXPRESSION, Tree.Kind.MEMBER_REFERENCE, Tree.Kind.IMPORT, Tree.Kind.PACKAGE);
    private static final int MOST_LINES = 60;
    private static final int MOST_PARAMETERS = 7;
    private static final int MOST_DEEP = 8;
    private static final int MOST_CLASSES = 12;
    private static final int MOST_FIELDS = 20;

    private final Trees trees;
    private final CompilationUnitTree unit;
    private final Map<Element, Set<Element>> calls = new HashMap<>();
    private int classes = 0;

    private RulesTest(Trees trees, CompilationUnitTree unit) {
        this.trees = trees;
        this.unit = unit;
    }

    public static void main(String[] args) throws IOException {
        JavaCompiler compiler = ToolProvider.getSystemJavaCompiler();
        try (StandardJavaFileManager files = compiler.getStandardFileManager(null, null, null)) {
            JavacTask task = (JavacTask) compiler.getTask(null, files, null, List.of("--release", "17"), null,
                files.getJavaFileObjects(MAIN));
            CompilationUnitTree unit = task.parse().iterator().next();
            task.analyze();
            RulesTest rules = new RulesTest(Trees.instance(task), unit);
            rules.scan(unit, null);
            rules.end();
        }
        Check.end();
    }

    private void end() {
        holds("rule 11: classes are " + classes, classes >= 1 && classes <= MOST_CLASSES);
        holds("rule 11: calls were found", calls.size() > 24);
        for (Element method : calls.keySet()) {
            int deep = deep(method, new HashSet<>());
            holds("rule 11: calls of " + method + " go " + deep + " deep", deep <= MOST_DEEP);
        }
    }

    private static void holds(String what, boolean so) {
        Check.due(what, so ? 1 : 0, 1);
    }

    private String at(Tree tree) {
        long place = trees.getSourcePositions().getStartPosition(unit, tree);
        return " in line " + unit.getLineMap().getLineNumber(place);
    }

    private static boolean isOwn(Element e) {
        Element outer = e;
        while (outer != null && outer.getEnclosingElement() != null && outer.getEnclosingElement().getKind() != ElementKind.PACKAGE) {
            outer = outer.getEnclosingElement();
        }
        return outer != null && outer.getSimpleName().contentEquals("DeedNames");
    }

    /** How many calls stand open at once at most, the method's own counted; a method that calls itself is a fault. */
    private int deep(Element method, Set<Element> open) {
        if (!open.add(method)) {
            holds("no recursion through " + method, false);
            return 0;
        }
        int most = 0;
        for (Element called : calls.getOrDefault(method, Set.of())) {
            most = Math.max(most, deep(called, open));
        }
        open.remove(method);
        return most + 1;
    }

    @Override
    public Void scan(Tree tree, Void none) {
        if (tree != null) {
            holds("rules 2 and 6: " + tree.getKind() + at(tree), !FORBIDDEN.contains(tree.getKind()));
        }
        return super.scan(tree, none);
    }

    @Override
    public Void visitClass(ClassTree tree, Void none) {
        classes++;
        Tree parent = getCurrentPath().getParentPath().getLeaf();
        boolean outermost = parent.getKind() == Tree.Kind.COMPILATION_UNIT;
        holds("rule 2: no local or anonymous class" + at(tree), outermost || parent.getKind() == Tree.Kind.CLASS);
        holds("rule 2: static" + at(tree), outermost || tree.getModifiers().getFlags().contains(Modifier.STATIC));
        int fields = 0;
        for (Tree member : tree.getMembers()) {
            holds("rule 5: no block of a class" + at(member), member.getKind() != Tree.Kind.BLOCK);
            if (member instanceof VariableTree field) {
                boolean constant = field.getModifiers().getFlags().contains(Modifier.STATIC);
                fields += constant ? 0 : 1;
                holds("rule 5: static is final" + at(field), !constant || field.getModifiers().getFlags().contains(Modifier.FINAL));
            }
        }
        holds("rule 11: " + fields + " fields" + at(tree), fields <= MOST_FIELDS);
        return super.visitClass(tree, none);
    }

    @Override
    public Void visitMethod(MethodTree tree, Void none) {
        LineMap lines = unit.getLineMap();
        long first = lines.getLineNumber(trees.getSourcePositions().getStartPosition(unit, tree));
        BlockTree body = tree.getBody();
        if (body != null) {
            long last = lines.getLineNumber(trees.getSourcePositions().getEndPosition(unit, body));
            holds("rule 11: " + tree.getName() + " has " + (last - first + 1) + " lines", last - first < MOST_LINES);
        }
        holds("rule 11: parameters of " + tree.getName(), tree.getParameters().size() <= MOST_PARAMETERS);
        calls.computeIfAbsent(trees.getElement(getCurrentPath()), e -> new HashSet<>());
        return super.visitMethod(tree, none);
    }

    @Override
    public Void visitVariable(VariableTree tree, Void none) {
        TypeMirror type = trees.getTypeMirror(new TreePath(getCurrentPath(), tree.getType()));
        holds("rule 3: " + type + at(tree), isPlain(type) || isOwnType(type) || type instanceof ArrayType row && isPlain(row.getComponentType()));
        return super.visitVariable(tree, none);
    }

    private static boolean isPlain(TypeMirror type) {
        return type.getKind().isPrimitive() && type.getKind() != TypeKind.DOUBLE && type.getKind() != TypeKind.FLOAT;
    }

    private static boolean isOwnType(TypeMirror type) {
        return type.getKind() == TypeKind.DECLARED && type.toString().startsWith("DeedNames.");
    }

    @Override
    public Void visitMethodInvocation(MethodInvocationTree tree, Void none) {
        Element called = trees.getElement(getCurrentPath());
        MethodTree caller = method();
        if (called.getKind() == ElementKind.CONSTRUCTOR) {
            // the call of Object's constructor that the compiler writes
            return super.visitMethodInvocation(tree, none);
        }
        if (isOwn(called)) {
            holds("rule 12: called where a field is made" + at(tree), caller != null);
            note(caller, called);
        } else {
            String name = called.getEnclosingElement().getSimpleName() + "." + called.getSimpleName();
            holds("rule 4: " + name + at(tree), LIBRARY.contains(name));
        }
        return super.visitMethodInvocation(tree, none);
    }

    private void note(MethodTree caller, Element called) {
        if (caller != null) {
            calls.computeIfAbsent(trees.getElement(pathOf(Tree.Kind.METHOD)), e -> new HashSet<>()).add(called);
        }
    }

    private MethodTree method() {
        TreePath path = pathOf(Tree.Kind.METHOD);
        return path != null && path.getLeaf() instanceof MethodTree m ? m : null;
    }

    private TreePath pathOf(Tree.Kind kind) {
        for (TreePath path = getCurrentPath(); path != null; path = path.getParentPath()) {
            if (path.getLeaf().getKind() == kind) {
                return path;
            }
        }
        return null;
    }

    @Override
    public Void visitNewClass(NewClassTree tree, Void none) {
        madeOnce("an object", tree);
        Element made = trees.getElement(getCurrentPath());
        holds("rule 4: " + made + at(tree), isOwn(made));
        note(method(), made);
        return super.visitNewClass(tree, none);
    }

    @Override
    public Void visitNewArray(NewArrayTree tree, Void none) {
        madeOnce("a row", tree);
        return super.visitNewArray(tree, none);
    }

    /** What a run makes stays small if no call makes anything. */
    private void madeOnce(String what, Tree tree) {
        MethodTree in = method();
        boolean once = in == null || in.getName().contentEquals("<init>");
        holds("rule 12: " + what + " is made by a constructor or a field alone" + at(tree), once);
    }

    @Override
    public Void visitForLoop(ForLoopTree tree, Void none) {
        holds("rule 9: a counter and a bound" + at(tree), isBound(tree.getCondition()) && tree.getUpdate().size() == 1);
        return super.visitForLoop(tree, none);
    }

    @Override
    public Void visitWhileLoop(WhileLoopTree tree, Void none) {
        holds("rule 9: a bound" + at(tree), isBound(tree.getCondition()));
        return super.visitWhileLoop(tree, none);
    }

    @Override
    public Void visitDoWhileLoop(DoWhileLoopTree tree, Void none) {
        holds("rule 9: a bound" + at(tree), isBound(tree.getCondition()));
        return super.visitDoWhileLoop(tree, none);
    }

    /** A comparison, or several of which one is enough to end the loop. */
    private static boolean isBound(Tree condition) {
        Tree inner = condition instanceof ParenthesizedTree p ? p.getExpression() : condition;
        if (!(inner instanceof BinaryTree b)) {
            return false;
        }
        return switch (b.getKind()) {
            case CONDITIONAL_AND -> isBound(b.getLeftOperand()) || isBound(b.getRightOperand());
            case LESS_THAN, LESS_THAN_EQUAL, GREATER_THAN, GREATER_THAN_EQUAL -> true;
            default -> false;
        };
    }
}
