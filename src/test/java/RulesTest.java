import com.sun.source.tree.ArrayAccessTree;
import com.sun.source.tree.AssignmentTree;
import com.sun.source.tree.BinaryTree;
import com.sun.source.tree.ClassTree;
import com.sun.source.tree.CompilationUnitTree;
import com.sun.source.tree.CompoundAssignmentTree;
import com.sun.source.tree.ExpressionTree;
import com.sun.source.tree.ForLoopTree;
import com.sun.source.tree.IdentifierTree;
import com.sun.source.tree.LineMap;
import com.sun.source.tree.MemberSelectTree;
import com.sun.source.tree.MethodInvocationTree;
import com.sun.source.tree.MethodTree;
import com.sun.source.tree.NewArrayTree;
import com.sun.source.tree.NewClassTree;
import com.sun.source.tree.Tree;
import com.sun.source.tree.TypeCastTree;
import com.sun.source.tree.UnaryTree;
import com.sun.source.tree.VariableTree;
import com.sun.source.tree.WhileLoopTree;
import com.sun.source.util.JavacTask;
import com.sun.source.util.TreePath;
import com.sun.source.util.TreePathScanner;
import com.sun.source.util.TreeScanner;
import com.sun.source.util.Trees;
import java.io.File;
import java.io.IOException;
import java.util.ArrayDeque;
import java.util.Deque;
import java.util.EnumSet;
import java.util.HashSet;
import java.util.List;
import java.util.Map;
import java.util.Set;
import java.util.TreeMap;
import java.util.TreeSet;
import javax.lang.model.element.Element;
import javax.lang.model.element.ElementKind;
import javax.lang.model.element.Modifier;
import javax.lang.model.element.VariableElement;
import javax.lang.model.type.TypeKind;
import javax.tools.JavaCompiler;
import javax.tools.StandardJavaFileManager;
import javax.tools.ToolProvider;

/** Rules of LANGUAGE.md that show in the class's syntax tree, as the compiler reads it; LanguageTest holds to the others. */
public final class RulesTest extends TreePathScanner<Void, Void> {
    private static final Set<Tree.Kind> FORBIDDEN = EnumSet.of(Tree.Kind.THROW, Tree.Kind.TRY, Tree.Kind.SYNCHRONIZED,
            Tree.Kind.ASSERT, Tree.Kind.LAMBDA_EXPRESSION, Tree.Kind.MEMBER_REFERENCE, Tree.Kind.ANNOTATION,
            Tree.Kind.SWITCH_EXPRESSION, Tree.Kind.INSTANCE_OF, Tree.Kind.STRING_LITERAL, Tree.Kind.DOUBLE_LITERAL,
            Tree.Kind.FLOAT_LITERAL);
    private static final Set<Tree.Kind> ORDERS = EnumSet.of(Tree.Kind.LESS_THAN, Tree.Kind.LESS_THAN_EQUAL,
            Tree.Kind.GREATER_THAN, Tree.Kind.GREATER_THAN_EQUAL);
    private static final Set<Tree.Kind> COMPARISONS = EnumSet.of(Tree.Kind.LESS_THAN, Tree.Kind.LESS_THAN_EQUAL,
            Tree.Kind.GREATER_THAN, Tree.Kind.GREATER_THAN_EQUAL, Tree.Kind.EQUAL_TO, Tree.Kind.NOT_EQUAL_TO);
    private static final String NUMBER = "(int|long|short|byte|char|boolean)";
    private static final int MOST_DEEP = 8, MOST_CLASSES = 12, MOST_FIELDS = 20, MOST_PARAMETERS = 7, MOST_LINES = 60;

    private final CompilationUnitTree unit;
    private final Trees trees;
    private final LineMap lines;
    private final Set<String> ownClasses = new TreeSet<>();
    /** By method: those that it calls, of the class and the classes inside it. */
    private final Map<String, Set<String>> calls = new TreeMap<>();

    private RulesTest(CompilationUnitTree unit, Trees trees) {
        this.unit = unit;
        this.trees = trees;
        this.lines = unit.getLineMap();
    }

    public static void main(String[] args) throws IOException {
        JavaCompiler compiler = ToolProvider.getSystemJavaCompiler();
        try (StandardJavaFileManager files = compiler.getStandardFileManager(null, null, null)) {
            JavacTask task = (JavacTask) compiler.getTask(null, files, null, null, null,
                    files.getJavaFileObjects(new File(System.getProperty("touchpanel.source"))));
            CompilationUnitTree unit = task.parse().iterator().next();
            task.analyze();
            RulesTest rules = new RulesTest(unit, Trees.instance(task));
            rules.nameClasses();
            rules.scan(unit, null);
            rules.calledDepth();
        }
        Due.end();
    }

    private void nameClasses() {
        new TreeScanner<Void, Void>() {
            @Override
            public Void visitClass(ClassTree type, Void none) {
                ownClasses.add(type.getSimpleName().toString());
                return super.visitClass(type, none);
            }
        }.scan(unit, null);
        Due.holds("rule 11: there are twelve classes at most", ownClasses.size() <= MOST_CLASSES);
        Due.due("rule 1: classes beside the one of the document", unit.getTypeDecls().size(), 1);
    }

    private void holds(Tree at, String rule, boolean so) {
        Due.holds("rule " + rule + " (line " + lineOf(at, true) + ")", so);
    }

    private long lineOf(Tree at, boolean start) {
        long position = start ? trees.getSourcePositions().getStartPosition(unit, at) : trees.getSourcePositions().getEndPosition(unit, at);
        return position < 0 ? 0 : lines.getLineNumber(position);
    }

    private Element elementOf(Tree tree) {
        return trees.getElement(new TreePath(getCurrentPath(), tree));
    }

    /** The method around what is looked at now; null in a field's initialiser. */
    private MethodTree methodAround() {
        for (TreePath path = getCurrentPath(); path != null; path = path.getParentPath()) {
            if (path.getLeaf() instanceof MethodTree method) {
                return method;
            }
        }
        return null;
    }

    @Override
    public Void scan(Tree tree, Void none) {
        if (tree != null) {
            holds(tree, "2, 3, 6: no " + tree.getKind(), !FORBIDDEN.contains(tree.getKind()));
        }
        return super.scan(tree, none);
    }

    @Override
    public Void visitClass(ClassTree type, Void none) {
        Tree around = getCurrentPath().getParentPath().getLeaf();
        if (around != unit) {
            holds(type, "2: a class inside is static, and in the public class itself", around == unit.getTypeDecls().get(0)
                    && (type.getKind() != Tree.Kind.CLASS || type.getModifiers().getFlags().contains(Modifier.STATIC)));
        }
        int fields = 0;
        for (Tree member : type.getMembers()) {
            holds(member, "5: no initialiser block", member.getKind() != Tree.Kind.BLOCK);
            if (member instanceof VariableTree field && !field.getModifiers().getFlags().contains(Modifier.STATIC)) {
                fields++;
            }
        }
        holds(type, "11: twenty fields at most", fields <= MOST_FIELDS);
        return super.visitClass(type, none);
    }

    @Override
    public Void visitMethod(MethodTree method, Void none) {
        holds(method, "11: seven parameters at most", method.getParameters().size() <= MOST_PARAMETERS);
        holds(method, "11: sixty lines at most", lineOf(method, false) - lineOf(method, true) < MOST_LINES);
        if (method.getReturnType() != null) {
            typeIsListed(method, method.getReturnType());
        }
        calls.putIfAbsent(nameOf(trees.getElement(getCurrentPath())), new TreeSet<>());
        return super.visitMethod(method, none);
    }

    @Override
    public Void visitVariable(VariableTree variable, Void none) {
        typeIsListed(variable, variable.getType());
        Element element = trees.getElement(getCurrentPath());
        if (element.getKind() == ElementKind.FIELD && element.getModifiers().contains(Modifier.STATIC)) {
            holds(variable, "5: a static field is final", element.getModifiers().contains(Modifier.FINAL));
            boolean writtenOut = variable.getInitializer() instanceof NewArrayTree array && array.getInitializers() != null;
            holds(variable, "5: a constant, or an array written out", writtenOut || ((VariableElement) element).getConstantValue() != null);
        }
        return super.visitVariable(variable, none);
    }

    private void typeIsListed(Tree at, Tree type) {
        String own = "(" + String.join("|", ownClasses) + ")";
        holds(at, "3: a type that is listed, not " + type, type.toString().matches("void|" + NUMBER + "(\\[\\]){0,2}|" + own + "(\\[\\])?"));
    }

    @Override
    public Void visitTypeCast(TypeCastTree cast, Void none) {
        holds(cast, "6: a cast among numbers alone", cast.getType().toString().matches(NUMBER));
        return super.visitTypeCast(cast, none);
    }

    @Override
    public Void visitNewClass(NewClassTree made, Void none) {
        holds(made, "2: no class without a name", made.getClassBody() == null);
        madeWithTheObjectAlone(made);
        return super.visitNewClass(made, none);
    }

    @Override
    public Void visitNewArray(NewArrayTree made, Void none) {
        madeWithTheObjectAlone(made);
        return super.visitNewArray(made, none);
    }

    private void madeWithTheObjectAlone(Tree made) {
        MethodTree method = methodAround();
        holds(made, "12: no call makes anything", method == null || method.getReturnType() == null);
    }

    @Override
    public Void visitMethodInvocation(MethodInvocationTree call, Void none) {
        Element called = elementOf(call.getMethodSelect());
        if (called != null && isOwn(called)) {
            MethodTree method = methodAround();
            if (method != null) {
                calls.computeIfAbsent(nameOf(elementAround()), name -> new TreeSet<>()).add(nameOf(called));
            }
        } else if (called != null && called.getSimpleName().contentEquals("clone")) {
            madeWithTheObjectAlone(call);
        }
        return super.visitMethodInvocation(call, none);
    }

    private Element elementAround() {
        TreePath path = getCurrentPath();
        while (!(path.getLeaf() instanceof MethodTree)) {
            path = path.getParentPath();
        }
        return trees.getElement(path);
    }

    private boolean isOwn(Element element) {
        return element.getKind() == ElementKind.METHOD && ownClasses.contains(element.getEnclosingElement().getSimpleName().toString());
    }

    private static String nameOf(Element method) {
        return method.getEnclosingElement().getSimpleName() + "." + method;
    }

    /** A static array is only read: at an index, its length, or a copy of it. */
    @Override
    public Void visitIdentifier(IdentifierTree name, Void none) {
        Element element = trees.getElement(getCurrentPath());
        boolean isStaticArray = element instanceof VariableElement && element.getKind() == ElementKind.FIELD
                && element.getModifiers().contains(Modifier.STATIC) && element.asType().getKind() == TypeKind.ARRAY;
        if (isStaticArray) {
            TreePath around = getCurrentPath().getParentPath();
            Tree user = around.getLeaf();
            Tree beyond = around.getParentPath().getLeaf();
            boolean read = user instanceof MemberSelectTree
                    || user instanceof ArrayAccessTree access && access.getExpression() == name && !isWritten(beyond, access);
            holds(name, "5: a static array is never changed", read);
        }
        return super.visitIdentifier(name, none);
    }

    private static boolean isWritten(Tree by, Tree what) {
        return by instanceof AssignmentTree set && set.getVariable() == what
                || by instanceof CompoundAssignmentTree change && change.getVariable() == what
                || by instanceof UnaryTree step && isStep(step);
    }

    private static boolean isStep(UnaryTree tree) {
        return switch (tree.getKind()) {
            case PREFIX_INCREMENT, PREFIX_DECREMENT, POSTFIX_INCREMENT, POSTFIX_DECREMENT -> true;
            default -> false;
        };
    }

    @Override
    public Void visitBinary(BinaryTree tree, Void none) {
        if (tree.getKind() == Tree.Kind.DIVIDE || tree.getKind() == Tree.Kind.REMAINDER) {
            divisorIsLookedAt(tree.getRightOperand());
        }
        return super.visitBinary(tree, none);
    }

    @Override
    public Void visitCompoundAssignment(CompoundAssignmentTree tree, Void none) {
        holds(tree, "7: no division in an assignment", tree.getKind() != Tree.Kind.DIVIDE_ASSIGNMENT
                && tree.getKind() != Tree.Kind.REMAINDER_ASSIGNMENT);
        return super.visitCompoundAssignment(tree, none);
    }

    /** A constant that is not 0, or names of which each is compared with something in the method. */
    private void divisorIsLookedAt(ExpressionTree divisor) {
        Set<String> names = namesIn(divisor);
        Element element = trees.getElement(new TreePath(getCurrentPath(), divisor));
        Object constant = element instanceof VariableElement variable ? variable.getConstantValue() : null;
        boolean literal = names.isEmpty() && !divisor.toString().matches("0L?");
        boolean looked = literal || constant instanceof Number number && number.longValue() != 0
                || !names.isEmpty() && methodAround() != null && comparedIn(methodAround()).containsAll(names);
        holds(divisor, "7: a divisor is looked at before it divides: " + divisor, looked);
    }

    private static Set<String> namesIn(Tree tree) {
        Set<String> names = new HashSet<>();
        new TreeScanner<Void, Void>() {
            @Override
            public Void visitIdentifier(IdentifierTree name, Void none) {
                names.add(name.getName().toString());
                return null;
            }
        }.scan(tree, null);
        return names;
    }

    /** The names that stand alone at one side of a comparison, in all of the method. */
    private static Set<String> comparedIn(MethodTree method) {
        Set<String> names = new HashSet<>();
        new TreeScanner<Void, Void>() {
            @Override
            public Void visitBinary(BinaryTree tree, Void none) {
                if (COMPARISONS.contains(tree.getKind())) {
                    for (ExpressionTree side : List.of(tree.getLeftOperand(), tree.getRightOperand())) {
                        if (side instanceof IdentifierTree) {
                            names.add(side.toString());
                        }
                    }
                }
                return super.visitBinary(tree, none);
            }
        }.scan(method, null);
        return names;
    }

    @Override
    public Void visitForLoop(ForLoopTree loop, Void none) {
        holds(loop, "9: a loop has a condition and one step", loop.getCondition() != null && loop.getUpdate().size() == 1);
        if (loop.getCondition() != null && loop.getUpdate().size() == 1) {
            Set<String> stepped = namesIn(loop.getUpdate().get(0));
            boolean compared = !comparedIn(loop.getCondition(), stepped).isEmpty();
            Set<String> changed = changedIn(loop.getStatement());
            changed.retainAll(stepped);
            holds(loop, "9: the counter is held against a bound", compared);
            holds(loop, "9: nothing but the step changes the counter", changed.isEmpty());
            holds(loop, "9: the bound stays", boundStays(loop, stepped));
        }
        return super.visitForLoop(loop, none);
    }

    /** What else stands beside the counter in a comparison is not changed in the loop. */
    private static boolean boundStays(ForLoopTree loop, Set<String> stepped) {
        Set<String> bounds = comparedIn(loop.getCondition(), stepped);
        bounds.removeAll(stepped);
        bounds.retainAll(changedIn(loop.getStatement()));
        return bounds.isEmpty();
    }

    /** All names in those comparisons in which one of these names stands. */
    private static Set<String> comparedIn(Tree condition, Set<String> wanted) {
        Set<String> names = new HashSet<>();
        new TreeScanner<Void, Void>() {
            @Override
            public Void visitBinary(BinaryTree tree, Void none) {
                Set<String> here = ORDERS.contains(tree.getKind()) ? namesIn(tree) : Set.of();
                for (String name : wanted) {
                    if (here.contains(name)) {
                        names.addAll(here);
                    }
                }
                return super.visitBinary(tree, none);
            }
        }.scan(condition, null);
        return names;
    }

    private static Set<String> changedIn(Tree body) {
        Set<String> names = new HashSet<>();
        new TreeScanner<Void, Void>() {
            @Override
            public Void visitUnary(UnaryTree tree, Void none) {
                if (isStep(tree) && tree.getExpression() instanceof IdentifierTree) {
                    names.add(tree.getExpression().toString());
                }
                return super.visitUnary(tree, none);
            }

            @Override
            public Void visitAssignment(AssignmentTree tree, Void none) {
                if (tree.getVariable() instanceof IdentifierTree) {
                    names.add(tree.getVariable().toString());
                }
                return super.visitAssignment(tree, none);
            }

            @Override
            public Void visitCompoundAssignment(CompoundAssignmentTree tree, Void none) {
                if (tree.getVariable() instanceof IdentifierTree) {
                    names.add(tree.getVariable().toString());
                }
                return super.visitCompoundAssignment(tree, none);
            }
        }.scan(body, null);
        return names;
    }

    @Override
    public Void visitWhileLoop(WhileLoopTree loop, Void none) {
        Set<String> stepped = changedIn(loop.getStatement());
        holds(loop, "9: what the loop steps is held against a bound", !comparedIn(loop.getCondition(), stepped).isEmpty());
        return super.visitWhileLoop(loop, none);
    }

    /** No method leads back to itself, and no way from one to another is longer than eight calls. */
    private void calledDepth() {
        Due.holds("calls were seen", calls.getOrDefault("TouchPanel.frame(int)", Set.of()).contains("Scene.takeFrame(TouchPanel.Pairing)"));
        int deepest = 0;
        for (String method : calls.keySet()) {
            deepest = Math.max(deepest, depthOf(method, new ArrayDeque<>()));
        }
        Due.holds("rule 11: calls go eight deep at most, not " + deepest, deepest <= MOST_DEEP);
    }

    private int depthOf(String method, Deque<String> open) {
        if (open.contains(method)) {
            Due.tell("rule 8: " + method + " comes to itself by " + open);
            return 0;
        }
        open.push(method);
        int below = 0;
        for (String called : calls.getOrDefault(method, Set.of())) {
            below = Math.max(below, depthOf(called, open));
        }
        open.pop();
        return below + 1;
    }
}
