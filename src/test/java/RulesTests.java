import com.sun.source.tree.BinaryTree;
import com.sun.source.tree.ClassTree;
import com.sun.source.tree.CompilationUnitTree;
import com.sun.source.tree.DoWhileLoopTree;
import com.sun.source.tree.ExpressionTree;
import com.sun.source.tree.ForLoopTree;
import com.sun.source.tree.MethodInvocationTree;
import com.sun.source.tree.MethodTree;
import com.sun.source.tree.NewArrayTree;
import com.sun.source.tree.NewClassTree;
import com.sun.source.tree.Tree;
import com.sun.source.tree.TypeCastTree;
import com.sun.source.tree.VariableTree;
import com.sun.source.tree.WhileLoopTree;
import com.sun.source.util.JavacTask;
import com.sun.source.util.TreePath;
import com.sun.source.util.TreePathScanner;
import com.sun.source.util.Trees;
import java.io.IOException;
import java.nio.file.Path;
import java.util.ArrayList;
import java.util.EnumSet;
import java.util.LinkedHashMap;
import java.util.LinkedHashSet;
import java.util.List;
import java.util.Map;
import java.util.Set;
import javax.lang.model.element.Element;
import javax.lang.model.element.ElementKind;
import javax.lang.model.element.ExecutableElement;
import javax.lang.model.element.Modifier;
import javax.lang.model.element.TypeElement;
import javax.lang.model.element.VariableElement;
import javax.lang.model.type.ArrayType;
import javax.lang.model.type.DeclaredType;
import javax.lang.model.type.TypeKind;
import javax.lang.model.type.TypeMirror;
import javax.tools.JavaCompiler;
import javax.tools.StandardJavaFileManager;
import javax.tools.ToolProvider;

/**
 * What of ../shared/LANGUAGE.md the compiler's tree of the source shows, by the rules' numbers: run it where
 * src/ lies.
 */
public final class RulesTests extends TreePathScanner<Void, Void> {
    private static final Due due = new Due();
    private static final Path SOURCE = Path.of("src/main/java/BellTouches.java");
    private static final Set<Tree.Kind> REFUSED = EnumSet.of(Tree.Kind.THROW, Tree.Kind.TRY, Tree.Kind.CATCH,
            Tree.Kind.SYNCHRONIZED, Tree.Kind.ASSERT, Tree.Kind.LAMBDA_EXPRESSION, Tree.Kind.MEMBER_REFERENCE,
            Tree.Kind.IMPORT, Tree.Kind.PACKAGE, Tree.Kind.ANNOTATION, Tree.Kind.INSTANCE_OF, Tree.Kind.STRING_LITERAL,
            Tree.Kind.DOUBLE_LITERAL, Tree.Kind.FLOAT_LITERAL);
    private static final String LIBRARY = "java\\.lang\\.System\\.arraycopy|java\\.lang\\.(Math|Integer|Long)\\.\\w+"
            + "|java\\.util\\.Arrays\\.(copyOf|copyOfRange|fill)|java\\.lang\\.Object\\.<init>";
    private static final int MOST_DEEP = 8;
    private static final int MOST_LINES = 60;

    private final Trees trees;
    private final CompilationUnitTree unit;
    private final Map<ExecutableElement, Set<ExecutableElement>> calls = new LinkedHashMap<>();
    private int classes = 0;
    private int loops = 0;

    private RulesTests(Trees trees, CompilationUnitTree unit) {
        this.trees = trees;
        this.unit = unit;
    }

    public static void main(String[] args) throws IOException {
        JavaCompiler compiler = ToolProvider.getSystemJavaCompiler();
        try (StandardJavaFileManager files = compiler.getStandardFileManager(null, null, null)) {
            JavacTask task = (JavacTask) compiler.getTask(null, files, null, List.of("--release", "17", "-proc:none"), null,
                    files.getJavaFileObjects(SOURCE));
            CompilationUnitTree unit = task.parse().iterator().next();
            task.analyze();
            RulesTests tests = new RulesTests(Trees.instance(task), unit);
            tests.scan(unit, null);
            tests.recursion();
            due.holds("11: some twelve classes", tests.classes >= 2 && tests.classes <= 12);
            due.holds("9: loops are found", tests.loops > 20);
            due.holds("8: methods are found", tests.calls.size() > 80);
        }
        due.end("RulesTests");
    }

    private String at(Tree tree) {
        long place = trees.getSourcePositions().getStartPosition(unit, tree);
        return place < 0 ? "" : " at line " + unit.getLineMap().getLineNumber(place);
    }

    private Element element(Tree tree) {
        return trees.getElement(new TreePath(getCurrentPath(), tree));
    }

    @Override
    public Void scan(Tree tree, Void none) {
        if (tree != null) {
            due.holds("4, 6: no " + tree.getKind() + at(tree), !REFUSED.contains(tree.getKind()));
        }
        return super.scan(tree, none);
    }

    // ---- rules 2, 3, 5

    @Override
    public Void visitClass(ClassTree part, Void none) {
        classes++;
        Element element = trees.getElement(getCurrentPath());
        boolean isOuter = getCurrentPath().getParentPath().getLeaf() == unit;
        Set<Modifier> modifiers = element.getModifiers();
        due.holds("2: a class of its own or a static one inside it" + at(part),
                isOuter || element.getEnclosingElement().getKind() == ElementKind.CLASS
                        && modifiers.contains(Modifier.STATIC));
        due.holds("1: inside no public, no protected class" + at(part),
                isOuter || !modifiers.contains(Modifier.PUBLIC) && !modifiers.contains(Modifier.PROTECTED));
        due.is(0, "1: public and final, the outer class alone", modifiers.contains(Modifier.PUBLIC) ? 1 : 0, isOuter ? 1 : 0);
        int fields = 0;
        for (Tree member : part.getMembers()) {
            due.holds("5: no block outside of methods" + at(member), member.getKind() != Tree.Kind.BLOCK);
            boolean isField = member.getKind() == Tree.Kind.VARIABLE;
            fields += isField && !((VariableTree) member).getModifiers().getFlags().contains(Modifier.STATIC) ? 1 : 0;
        }
        due.holds("11: some twenty fields" + at(part), fields <= 20);
        return super.visitClass(part, none);
    }

    @Override
    public Void visitVariable(VariableTree variable, Void none) {
        VariableElement element = (VariableElement) trees.getElement(getCurrentPath());
        due.holds("3: the type of " + element + at(variable), isAllowed(element.asType()));
        if (element.getModifiers().contains(Modifier.STATIC)) {
            due.holds("5: static, so a constant: " + element + at(variable),
                    element.getModifiers().contains(Modifier.FINAL) && element.getConstantValue() != null);
        }
        return super.visitVariable(variable, none);
    }

    /** No float, no double, no String: the class needs none of them. */
    private boolean isAllowed(TypeMirror type) {
        if (type.getKind() == TypeKind.ARRAY) {
            TypeMirror part = ((ArrayType) type).getComponentType();
            boolean isRowOfNumbers = part.getKind() == TypeKind.ARRAY
                    && ((ArrayType) part).getComponentType().getKind().isPrimitive();
            return isRowOfNumbers || part.getKind() != TypeKind.ARRAY && isAllowed(part);
        }
        if (type.getKind() == TypeKind.DECLARED) {
            return isOwn(((DeclaredType) type).asElement());
        }
        return type.getKind() == TypeKind.VOID
                || type.getKind().isPrimitive() && type.getKind() != TypeKind.DOUBLE && type.getKind() != TypeKind.FLOAT;
    }

    private static boolean isOwn(Element part) {
        return part instanceof TypeElement && ((TypeElement) part).getQualifiedName().toString().startsWith("BellTouches");
    }

    // ---- rules 4, 8, 11, 12

    @Override
    public Void visitMethod(MethodTree method, Void none) {
        ExecutableElement element = (ExecutableElement) trees.getElement(getCurrentPath());
        calls.putIfAbsent(element, new LinkedHashSet<>());
        due.holds("3: what is answered by " + element + at(method), isAllowed(element.getReturnType()));
        due.holds("11: at most seven parameters of " + element, method.getParameters().size() <= 7);
        long end = trees.getSourcePositions().getEndPosition(unit, method);
        long start = trees.getSourcePositions().getStartPosition(unit, method);
        if (start >= 0 && end >= 0) {
            long lines = unit.getLineMap().getLineNumber(end) - unit.getLineMap().getLineNumber(start) + 1;
            due.holds("11: some sixty lines of " + element, lines <= MOST_LINES);
        }
        String name = method.getName().toString();
        due.holds("6: no " + name + " of its own", !List.of("equals", "hashCode", "toString", "compareTo").contains(name));
        return super.visitMethod(method, none);
    }

    private MethodTree methodAround() {
        for (TreePath path = getCurrentPath(); path != null; path = path.getParentPath()) {
            if (path.getLeaf() instanceof MethodTree) {
                return (MethodTree) path.getLeaf();
            }
        }
        return null;
    }

    @Override
    public Void visitMethodInvocation(MethodInvocationTree call, Void none) {
        ExecutableElement called = (ExecutableElement) trees.getElement(getCurrentPath());
        String name = called.getEnclosingElement() + "." + called.getSimpleName();
        boolean own = isOwn(called.getEnclosingElement());
        due.holds("4: of the library no " + name + at(call), own || name.matches(LIBRARY) && !name.endsWith("Exact"));
        MethodTree around = methodAround();
        if (own && around != null) {
            ExecutableElement caller = (ExecutableElement) trees.getElement(trees.getPath(unit, around));
            calls.computeIfAbsent(caller, c -> new LinkedHashSet<>()).add(called);
        }
        return super.visitMethodInvocation(call, none);
    }

    @Override
    public Void visitNewClass(NewClassTree made, Void none) {
        due.holds("2: no class without a name" + at(made), made.getClassBody() == null);
        due.holds("4: an object of its own classes" + at(made), isOwn(element(made.getIdentifier())));
        due.holds("12: made when the object is made" + at(made), isInAConstructor());
        return super.visitNewClass(made, none);
    }

    @Override
    public Void visitNewArray(NewArrayTree made, Void none) {
        due.holds("12: made when the object is made" + at(made), isInAConstructor());
        return super.visitNewArray(made, none);
    }

    /** A field's own line belongs to the constructor, too. */
    private boolean isInAConstructor() {
        MethodTree around = methodAround();
        return around == null || around.getName().contentEquals("<init>");
    }

    /** 8: only a private static method calls itself, none by way of others; 11: the others go eight deep at most. */
    private void recursion() {
        for (ExecutableElement method : calls.keySet()) {
            Set<ExecutableElement> called = new LinkedHashSet<>(calls.get(method));
            boolean itself = called.remove(method);
            Set<Modifier> modifiers = method.getModifiers();
            due.holds("8: private and static, as it calls itself: " + method,
                    !itself || modifiers.contains(Modifier.PRIVATE) && modifiers.contains(Modifier.STATIC));
            due.holds("8: none by way of others calls itself: " + method, !isReached(method, called));
            due.holds("11: at most eight deep: " + method, depth(method, 0) <= MOST_DEEP);
        }
    }

    private boolean isReached(ExecutableElement sought, Set<ExecutableElement> from) {
        List<ExecutableElement> reached = new ArrayList<>(from);
        for (int i = 0; i < reached.size(); i++) {
            for (ExecutableElement next : calls.getOrDefault(reached.get(i), Set.of())) {
                if (!reached.contains(next)) {
                    reached.add(next);
                }
            }
        }
        return reached.contains(sought);
    }

    private int depth(ExecutableElement method, int above) {
        int deepest = above + 1;
        for (ExecutableElement next : calls.getOrDefault(method, Set.of())) {
            if (!next.equals(method) && above <= MOST_DEEP) {
                deepest = Math.max(deepest, depth(next, above + 1));
            }
        }
        return deepest;
    }

    // ---- rules 7, 9

    @Override
    public Void visitTypeCast(TypeCastTree cast, Void none) {
        due.holds("7: casts among numbers alone" + at(cast), cast.getType().getKind() == Tree.Kind.PRIMITIVE_TYPE);
        return super.visitTypeCast(cast, none);
    }

    @Override
    public Void visitBinary(BinaryTree binary, Void none) {
        if (binary.getKind() == Tree.Kind.DIVIDE || binary.getKind() == Tree.Kind.REMAINDER) {
            due.holds("7: a divisor above 0" + at(binary), isAboveZero(binary.getRightOperand().toString()));
        }
        return super.visitBinary(binary, none);
    }

    /** By a loop's own condition around it. */
    private boolean isAboveZero(String divisor) {
        for (TreePath path = getCurrentPath(); path != null; path = path.getParentPath()) {
            if (path.getLeaf() instanceof ForLoopTree
                    && ((ForLoopTree) path.getLeaf()).getCondition().toString().matches("\\Q" + divisor + "\\E > \\d+")) {
                return true;
            }
        }
        return false;
    }

    @Override
    public Void visitForLoop(ForLoopTree loop, Void none) {
        ends(loop, loop.getCondition());
        due.holds("9: it counts" + at(loop), !loop.getUpdate().isEmpty());
        return super.visitForLoop(loop, none);
    }

    @Override
    public Void visitWhileLoop(WhileLoopTree loop, Void none) {
        ends(loop, loop.getCondition());
        return super.visitWhileLoop(loop, none);
    }

    @Override
    public Void visitDoWhileLoop(DoWhileLoopTree loop, Void none) {
        ends(loop, loop.getCondition());
        return super.visitDoWhileLoop(loop, none);
    }

    private void ends(Tree loop, ExpressionTree condition) {
        loops++;
        due.holds("9: a counter against a bound" + at(loop),
                condition != null && condition.toString().matches(".*\\w (<|>|<=|>=) \\w.*"));
    }
}
