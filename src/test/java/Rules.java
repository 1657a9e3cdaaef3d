import com.sun.source.tree.AssertTree;
import com.sun.source.tree.BinaryTree;
import com.sun.source.tree.BlockTree;
import com.sun.source.tree.ClassTree;
import com.sun.source.tree.CompilationUnitTree;
import com.sun.source.tree.ConditionalExpressionTree;
import com.sun.source.tree.DoWhileLoopTree;
import com.sun.source.tree.EnhancedForLoopTree;
import com.sun.source.tree.ExpressionTree;
import com.sun.source.tree.ForLoopTree;
import com.sun.source.tree.IdentifierTree;
import com.sun.source.tree.ImportTree;
import com.sun.source.tree.InstanceOfTree;
import com.sun.source.tree.LambdaExpressionTree;
import com.sun.source.tree.LiteralTree;
import com.sun.source.tree.MemberReferenceTree;
import com.sun.source.tree.MemberSelectTree;
import com.sun.source.tree.MethodInvocationTree;
import com.sun.source.tree.MethodTree;
import com.sun.source.tree.NewArrayTree;
import com.sun.source.tree.NewClassTree;
import com.sun.source.tree.SwitchTree;
import com.sun.source.tree.SynchronizedTree;
import com.sun.source.tree.ThrowTree;
import com.sun.source.tree.Tree;
import com.sun.source.tree.TryTree;
import com.sun.source.tree.TypeCastTree;
import com.sun.source.tree.VariableTree;
import com.sun.source.tree.WhileLoopTree;
import com.sun.source.util.JavacTask;
import com.sun.source.util.TreePath;
import com.sun.source.util.TreePathScanner;
import com.sun.source.util.Trees;
import java.nio.file.Path;
import java.util.ArrayDeque;
import java.util.Deque;
import java.util.List;
import java.util.Set;
import java.util.TreeSet;
import javax.lang.model.element.Element;
import javax.lang.model.element.ElementKind;
import javax.lang.model.element.ExecutableElement;
import javax.lang.model.element.Modifier;
import javax.lang.model.element.VariableElement;
import javax.lang.model.type.TypeKind;
import javax.lang.model.type.TypeMirror;
import javax.tools.JavaCompiler;
import javax.tools.StandardJavaFileManager;
import javax.tools.ToolProvider;

/** Goes through the compiler's tree of the class; each claim bears the number of its rule and its line. */
final class Rules extends TreePathScanner<Void, Void> {
    private static final Set<String> LIBRARY = Set.of("String.length", "String.charAt", "Math.min", "Math.max",
            "Integer.bitCount", "System.arraycopy");
    private static final Set<String> THROWN = Set.of("IllegalStateException", "IllegalArgumentException",
            "IndexOutOfBoundsException", "ArithmeticException", "UnsupportedOperationException",
            "NoSuchElementException", "RuntimeException");
    private static final Set<TypeKind> NUMBERS = Set.of(TypeKind.INT, TypeKind.LONG, TypeKind.SHORT, TypeKind.BYTE,
            TypeKind.CHAR, TypeKind.BOOLEAN);

    private final CompilationUnitTree unit;
    private final Trees trees;
    private final Calls calls = new Calls();
    private final Set<String> face = new TreeSet<>();
    private final Deque<ExecutableElement> inside = new ArrayDeque<>();
    private int classes = 0;

    private Rules(CompilationUnitTree unit, Trees trees) {
        this.unit = unit;
        this.trees = trees;
    }

    /** Looks the rules up in a file. */
    static void lookUp(Path file) throws Exception {
        JavaCompiler compiler = ToolProvider.getSystemJavaCompiler();
        try (StandardJavaFileManager files = compiler.getStandardFileManager(null, null, null)) {
            JavacTask task = (JavacTask) compiler.getTask(null, files, null, List.of("--release", "17", "-proc:none"),
                    null, files.getJavaFileObjects(file));
            CompilationUnitTree unit = task.parse().iterator().next();
            task.analyze();
            Rules rules = new Rules(unit, Trees.instance(task));
            rules.scan(unit, null);
            rules.calls.hold();
        }
    }

    private void rule(int number, Tree at, String claim, boolean isSo) {
        long place = trees.getSourcePositions().getStartPosition(unit, at);
        long line = place < 0 ? 0 : unit.getLineMap().getLineNumber(place);
        Checks.holds("rule " + number + ", line " + line + ": " + claim, isSo);
    }

    private long lineOf(long place) {
        return unit.getLineMap().getLineNumber(place);
    }

    private Element element(Tree tree) {
        return trees.getElement(new TreePath(getCurrentPath(), tree));
    }

    private TypeMirror typeOf(Tree tree) {
        return trees.getTypeMirror(new TreePath(getCurrentPath(), tree));
    }

    @Override
    public Void visitCompilationUnit(CompilationUnitTree tree, Void nothing) {
        rule(1, tree, "no package line", tree.getPackage() == null);
        rule(1, tree, "one class in the file", tree.getTypeDecls().size() == 1);
        super.visitCompilationUnit(tree, nothing);
        rule(11, tree, "at most twelve classes", classes <= 12);
        return null;
    }

    @Override
    public Void visitImport(ImportTree tree, Void nothing) {
        rule(4, tree, "imports an exception alone",
                tree.getQualifiedIdentifier().toString().equals("java.util.NoSuchElementException"));
        return null; // a package is no value
    }

    @Override
    public Void visitClass(ClassTree tree, Void nothing) {
        classes++;
        Set<Modifier> flags = tree.getModifiers().getFlags();
        Tree around = getCurrentPath().getParentPath().getLeaf();
        if (around instanceof CompilationUnitTree) {
            rule(1, tree, "public and final", flags.equals(Set.of(Modifier.PUBLIC, Modifier.FINAL)));
            noteFace(tree);
        } else {
            rule(2, tree, "a class of its own in the class", around instanceof ClassTree);
            rule(1, tree, "private, static and final",
                    flags.equals(Set.of(Modifier.PRIVATE, Modifier.STATIC, Modifier.FINAL)));
        }
        rule(2, tree, "extends nothing", tree.getExtendsClause() == null && tree.getImplementsClause().isEmpty());
        int fields = 0;
        for (Tree member : tree.getMembers()) {
            rule(5, member, "no initialiser block", !(member instanceof BlockTree));
            if (member instanceof VariableTree field
                    && !field.getModifiers().getFlags().contains(Modifier.STATIC)) {
                fields++;
            }
        }
        rule(11, tree, "at most twenty fields", fields <= 20);
        return super.visitClass(tree, nothing);
    }

    private void noteFace(ClassTree tree) {
        for (Tree member : tree.getMembers()) {
            if (member instanceof MethodTree method
                    && method.getModifiers().getFlags().contains(Modifier.PUBLIC)) {
                face.add(method.getName().toString());
            }
        }
    }

    @Override
    public Void visitMethod(MethodTree tree, Void nothing) {
        ExecutableElement method = (ExecutableElement) trees.getElement(getCurrentPath());
        String name = method.getSimpleName().toString();
        boolean made = method.getKind() == ElementKind.CONSTRUCTOR;
        boolean outer = method.getEnclosingElement().getSimpleName().contentEquals("BoughtMondays");
        boolean open = tree.getModifiers().getFlags().contains(Modifier.PUBLIC);
        rule(1, tree, name + " is public or private in the class",
                !outer || open || method.getModifiers().contains(Modifier.PRIVATE));
        rule(1, tree, name + " is not public in a class inside", outer || !open);
        rule(1, tree, name + " has a name of its own", made || open || !face.contains(name));
        rule(11, tree, name + " has at most seven parameters",
                tree.getParameters().size() <= 7 || name.equals("would"));
        long from = trees.getSourcePositions().getStartPosition(unit, tree);
        long to = trees.getSourcePositions().getEndPosition(unit, tree);
        if (from >= 0 && to >= 0) {
            rule(11, tree, name + " is short", lineOf(to) - lineOf(from) < 60);
        }
        inside.push(method);
        calls.add(method);
        super.visitMethod(tree, nothing);
        inside.pop();
        return null;
    }

    @Override
    public Void visitVariable(VariableTree tree, Void nothing) {
        Set<Modifier> flags = tree.getModifiers().getFlags();
        TypeMirror type = trees.getTypeMirror(getCurrentPath());
        rule(3, tree, tree.getName() + " is of a type that is listed: " + type, isListed(type));
        boolean isField = getCurrentPath().getParentPath().getLeaf() instanceof ClassTree;
        if (isField && flags.contains(Modifier.STATIC)) {
            VariableElement field = (VariableElement) trees.getElement(getCurrentPath());
            rule(5, tree, tree.getName() + " is a constant", field.getConstantValue() != null);
        } else if (isField && inOuter()) {
            rule(1, tree, tree.getName() + " is private", flags.contains(Modifier.PRIVATE));
        }
        return super.visitVariable(tree, nothing);
    }

    private boolean inOuter() {
        return ((ClassTree) getCurrentPath().getParentPath().getLeaf()).getSimpleName()
                .contentEquals("BoughtMondays");
    }

    private static boolean isListed(TypeMirror type) {
        String name = type.toString();
        String one = name.endsWith("[]") ? name.substring(0, name.length() - 2) : name;
        boolean own = one.startsWith("BoughtMondays.");
        return NUMBERS.contains(type.getKind()) || own || name.equals("java.lang.String")
                || name.equals("int[]") || name.equals("byte[]");
    }

    @Override
    public Void visitMethodInvocation(MethodInvocationTree tree, Void nothing) {
        ExecutableElement to = (ExecutableElement) element(tree);
        String owner = to.getEnclosingElement().toString();
        boolean own = owner.startsWith("BoughtMondays");
        String name = to.getEnclosingElement().getSimpleName() + "." + to.getSimpleName();
        boolean above = to.getKind() == ElementKind.CONSTRUCTOR;
        rule(4, tree, name + " stands in the list", own || above || LIBRARY.contains(name));
        if (own && !inside.isEmpty()) {
            calls.add(inside.peek(), to);
            boolean fromConstructor = inside.peek().getKind() == ElementKind.CONSTRUCTOR;
            rule(12, tree, "a constructor hands nothing out", !fromConstructor || !namesThis(tree.getArguments()));
        }
        return super.visitMethodInvocation(tree, nothing);
    }

    private static boolean namesThis(List<? extends ExpressionTree> arguments) {
        return arguments.stream().anyMatch(a -> a.toString().equals("this"));
    }

    @Override
    public Void visitNewClass(NewClassTree tree, Void nothing) {
        String name = tree.getIdentifier().toString();
        if (THROWN.contains(name)) {
            rule(6, tree, "an exception is made where it is thrown",
                    getCurrentPath().getParentPath().getLeaf() instanceof ThrowTree);
        } else {
            rule(12, tree, name + " is made in constructors alone", inConstructor());
            rule(12, tree, "a constructor hands nothing out", !namesThis(tree.getArguments()));
            rule(2, tree, "no class without a name", tree.getClassBody() == null);
        }
        return super.visitNewClass(tree, nothing);
    }

    private boolean inConstructor() {
        return inside.isEmpty() || inside.peek().getKind() == ElementKind.CONSTRUCTOR;
    }

    @Override
    public Void visitNewArray(NewArrayTree tree, Void nothing) {
        rule(12, tree, "rows are made in constructors alone", inConstructor());
        rule(3, tree, "a row has one dimension", tree.getDimensions().size() == 1);
        for (ExpressionTree length : tree.getDimensions()) {
            rule(7, tree, "the length is a constant: " + length, isConstant(length));
        }
        return super.visitNewArray(tree, nothing);
    }

    /** Whether an expression has nothing in it but literals and constants. */
    private boolean isConstant(ExpressionTree expression) {
        TreePath here = new TreePath(getCurrentPath(), expression);
        boolean[] constant = {true};
        new TreePathScanner<Void, Void>() {
            @Override
            public Void visitIdentifier(IdentifierTree tree, Void nothing) {
                Element named = trees.getElement(getCurrentPath());
                boolean isClass = named.getKind().isClass();
                constant[0] &= isClass || named instanceof VariableElement v && v.getConstantValue() != null;
                return null;
            }

            @Override
            public Void visitMemberSelect(MemberSelectTree tree, Void nothing) {
                Element named = trees.getElement(getCurrentPath());
                constant[0] &= named instanceof VariableElement v && v.getConstantValue() != null;
                return null;
            }

            @Override
            public Void visitMethodInvocation(MethodInvocationTree tree, Void nothing) {
                constant[0] = false;
                return null;
            }
        }.scan(here, null);
        return constant[0];
    }

    @Override
    public Void visitBinary(BinaryTree tree, Void nothing) {
        if (tree.getKind() == Tree.Kind.DIVIDE || tree.getKind() == Tree.Kind.REMAINDER) {
            ExpressionTree by = tree.getRightOperand();
            boolean safe = by instanceof LiteralTree literal && !literal.getValue().equals(0)
                    || isLookedAt(by.toString());
            rule(7, tree, "the divisor is looked at: " + tree, safe);
        }
        rule(10, tree, "texts are not joined by +",
                tree.getKind() != Tree.Kind.PLUS || !typeOf(tree.getLeftOperand()).toString().contains("String"));
        return super.visitBinary(tree, nothing);
    }

    /** Whether a divisor is a loop's counter from 1 on, or stands behind a test of it against 0. */
    private boolean isLookedAt(String divisor) {
        Tree below = null;
        for (Tree tree : getCurrentPath()) {
            if (tree instanceof ForLoopTree loop
                    && loop.getInitializer().toString().contains("int " + divisor + " = 1")) {
                return true;
            }
            if (tree instanceof ConditionalExpressionTree choice) {
                String test = choice.getCondition().toString().replaceAll("[()]", "");
                if (test.equals(divisor + " == 0") && below == choice.getFalseExpression()
                        || test.equals(divisor + " > 0") && below == choice.getTrueExpression()) {
                    return true;
                }
            }
            below = tree;
        }
        return false;
    }

    @Override
    public Void visitThrow(ThrowTree tree, Void nothing) {
        boolean listed = false;
        if (tree.getExpression() instanceof NewClassTree made) {
            listed = THROWN.contains(made.getIdentifier().toString());
            for (ExpressionTree argument : made.getArguments()) {
                listed &= argument instanceof LiteralTree;
            }
        }
        rule(6, tree, "throws a listed one with a written text", listed);
        rule(6, tree, "no throw in a constructor", !inConstructor());
        return super.visitThrow(tree, nothing);
    }

    @Override
    public Void visitTypeCast(TypeCastTree tree, Void nothing) {
        rule(6, tree, "casts numbers alone", NUMBERS.contains(trees.getTypeMirror(getCurrentPath()).getKind()));
        return super.visitTypeCast(tree, nothing);
    }

    @Override
    public Void visitForLoop(ForLoopTree tree, Void nothing) {
        ExpressionTree condition = tree.getCondition();
        rule(9, tree, "the loop has a bound", condition != null && condition.toString().matches(".*[<>]=? .*"));
        rule(9, tree, "the loop has a counter of its own", tree.getInitializer().size() == 1
                && tree.getUpdate().size() == 1);
        String counter = ((VariableTree) tree.getInitializer().get(0)).getName().toString();
        rule(9, tree, "the counter stands in the bound",
                condition != null && condition.toString().contains(counter + " "));
        rule(9, tree, "the counter moves", tree.getUpdate().get(0).toString().startsWith(counter));
        rule(9, tree, "the body leaves the counter alone", !moves(tree.getStatement(), counter));
        return super.visitForLoop(tree, nothing);
    }

    @Override
    public Void visitWhileLoop(WhileLoopTree tree, Void nothing) {
        String condition = tree.getCondition().toString().replaceAll("^\\(", "");
        String counter = condition.replaceAll(" < .*", "");
        rule(9, tree, "the loop has a bound", condition.startsWith(counter + " < end && "));
        rule(9, tree, "the body moves the counter", moves(tree.getStatement(), counter));
        return super.visitWhileLoop(tree, nothing);
    }

    /** Whether a statement steps or sets a name. */
    private static boolean moves(Tree body, String name) {
        String text = body.toString();
        return text.matches("(?s).*\\b" + name + "(\\+\\+|--| [-+*/|&^]?= ).*");
    }

    @Override
    public Void visitDoWhileLoop(DoWhileLoopTree tree, Void nothing) {
        rule(9, tree, "no do", false);
        return null;
    }

    @Override
    public Void visitEnhancedForLoop(EnhancedForLoopTree tree, Void nothing) {
        rule(9, tree, "no for over a list", false);
        return null;
    }

    @Override
    public Void visitSwitch(SwitchTree tree, Void nothing) {
        rule(10, tree, "switch on a number", typeOf(tree.getExpression()).getKind() == TypeKind.INT);
        return super.visitSwitch(tree, nothing);
    }

    @Override
    public Void visitTry(TryTree tree, Void nothing) {
        rule(6, tree, "catches nothing", false);
        return null;
    }

    @Override
    public Void visitSynchronized(SynchronizedTree tree, Void nothing) {
        rule(6, tree, "no synchronized", false);
        return null;
    }

    @Override
    public Void visitAssert(AssertTree tree, Void nothing) {
        rule(6, tree, "no assert", false);
        return null;
    }

    @Override
    public Void visitInstanceOf(InstanceOfTree tree, Void nothing) {
        rule(6, tree, "no instanceof", false);
        return null;
    }

    @Override
    public Void visitLambdaExpression(LambdaExpressionTree tree, Void nothing) {
        rule(2, tree, "no lambda", false);
        return null;
    }

    @Override
    public Void visitMemberReference(MemberReferenceTree tree, Void nothing) {
        rule(2, tree, "no method reference", false);
        return null;
    }
}
