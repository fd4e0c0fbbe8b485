import com.sun.source.tree.AnnotationTree;
import com.sun.source.tree.AssertTree;
import com.sun.source.tree.BinaryTree;
import com.sun.source.tree.BlockTree;
import com.sun.source.tree.ClassTree;
import com.sun.source.tree.CompilationUnitTree;
import com.sun.source.tree.CompoundAssignmentTree;
import com.sun.source.tree.DoWhileLoopTree;
import com.sun.source.tree.ExpressionTree;
import com.sun.source.tree.ForLoopTree;
import com.sun.source.tree.IdentifierTree;
import com.sun.source.tree.ImportTree;
import com.sun.source.tree.InstanceOfTree;
import com.sun.source.tree.LambdaExpressionTree;
import com.sun.source.tree.LiteralTree;
import com.sun.source.tree.MemberReferenceTree;
import com.sun.source.tree.MemberSelectTree;
import com.sun.source.tree.MethodInvocationTree;
import com.sun.source.tree.MethodTree;
import com.sun.source.tree.NewArrayTree;
import com.sun.source.tree.NewClassTree;
import com.sun.source.tree.SwitchExpressionTree;
import com.sun.source.tree.SynchronizedTree;
import com.sun.source.tree.ThrowTree;
import com.sun.source.tree.Tree;
import com.sun.source.tree.TryTree;
import com.sun.source.tree.TypeCastTree;
import com.sun.source.tree.VariableTree;
import com.sun.source.tree.WhileLoopTree;
import com.sun.source.util.JavacTask;
import com.sun.source.util.TreePathScanner;
import com.sun.source.util.Trees;
import java.io.IOException;
import java.nio.file.Path;
import java.util.ArrayList;
import java.util.HashMap;
import java.util.LinkedHashMap;
import java.util.List;
import java.util.Map;
import java.util.Set;
import java.util.TreeSet;
import javax.lang.model.element.Element;
import javax.lang.model.element.ElementKind;
import javax.lang.model.element.ExecutableElement;
import javax.lang.model.element.Modifier;
import javax.lang.model.element.TypeElement;
import javax.lang.model.element.VariableElement;
import javax.lang.model.type.TypeMirror;
import javax.tools.JavaCompiler;
import javax.tools.StandardJavaFileManager;
import javax.tools.ToolProvider;

/** The rules of ../shared/LANGUAGE.md, by their numbers, on the tree that the compiler makes of the class. */
public final class LanguageTest extends TreePathScanner<Void, Void> {
    private static final String OUTER = "PassiveChecks";
    private static final int CLASSES = 12, FIELDS = 20, LINES = 60, PARAMETERS = 7, DEEP = 8;
    /** What the class uses of the library; rule 4 allows more. */
    private static final Set<String> LIBRARY = Set.of("java.lang.Math.max", "java.lang.Math.min",
        "java.lang.Integer.bitCount", "java.lang.Long.bitCount", "java.lang.System.arraycopy", "java.util.Arrays.fill",
        "java.lang.Object.<init>");
    private static final Set<String> CONSTANT_TYPES = Set.of("int", "long", "boolean", "char", "java.lang.String");
    private static final Set<String> NUMBERS = Set.of("int", "long", "short", "byte", "char", "boolean");
    private static final Set<Tree.Kind> COMPARISONS = Set.of(Tree.Kind.LESS_THAN, Tree.Kind.LESS_THAN_EQUAL,
        Tree.Kind.GREATER_THAN, Tree.Kind.GREATER_THAN_EQUAL);

    private final Trees trees;
    private final CompilationUnitTree unit;
    /** For each method of the class the methods of the class that it calls. */
    private final Map<String, Set<String>> calls = new LinkedHashMap<>();
    private final Map<String, MethodTree> methods = new HashMap<>();
    private int classes;

    private LanguageTest(Trees ofTask, CompilationUnitTree file) {
        trees = ofTask;
        unit = file;
    }

    private void rule(int number, Tree tree, String what, boolean holds) {
        Check.in("rule " + number + ", line " + line(tree, false));
        Check.due(what, holds ? 1 : 0, 1);
    }

    private long line(Tree tree, boolean ofEnd) {
        long place = ofEnd ? trees.getSourcePositions().getEndPosition(unit, tree)
            : trees.getSourcePositions().getStartPosition(unit, tree);
        return place < 0 ? 0 : unit.getLineMap().getLineNumber(place);
    }

    private Element element(Tree tree) {
        return trees.getElement(trees.getPath(unit, tree));
    }

    private static String nameOf(Element method) {
        String owner = method.getEnclosingElement().toString();
        String parameters = method.toString();
        return owner + "." + method.getSimpleName() + parameters.substring(parameters.indexOf('('));
    }

    private static boolean isOwn(Element element) {
        for (Element one = element; one != null; one = one.getEnclosingElement()) {
            if (one.toString().equals(OUTER)) {
                return true;
            }
        }
        return false;
    }

    // ---- rules 1 to 5

    @Override
    public Void visitClass(ClassTree tree, Void none) {
        classes++;
        TypeElement type = (TypeElement) element(tree);
        boolean isOuter = type.toString().equals(OUTER);
        Element owner = type.getEnclosingElement();
        rule(2, tree, type + " stands in the class itself", isOuter || owner.getKind() == ElementKind.CLASS);
        rule(2, tree, type + " is static", isOuter || type.getModifiers().contains(Modifier.STATIC));
        rule(1, tree, type + " is not seen", isOuter || !isSeen(type));
        int fields = 0;
        for (Tree member : tree.getMembers()) {
            rule(5, member, "no block of a class", !(member instanceof BlockTree));
            fields += member instanceof VariableTree && !isStatic(member) ? 1 : 0;
        }
        rule(11, tree, type + " has " + fields + " fields", fields <= FIELDS);
        return super.visitClass(tree, none);
    }

    private static boolean isSeen(Element element) {
        return element.getModifiers().contains(Modifier.PUBLIC) || element.getModifiers().contains(Modifier.PROTECTED);
    }

    private boolean isStatic(Tree member) {
        return element(member).getModifiers().contains(Modifier.STATIC);
    }

    @Override
    public Void visitVariable(VariableTree tree, Void none) {
        VariableElement variable = (VariableElement) element(tree);
        String type = variable.asType().toString();
        rule(3, tree, "type " + type, isAllowed(variable.asType()));
        if (variable.getKind() == ElementKind.FIELD && variable.getModifiers().contains(Modifier.STATIC)) {
            rule(5, tree, variable + " is final", variable.getModifiers().contains(Modifier.FINAL));
            rule(5, tree, variable + " is a constant", CONSTANT_TYPES.contains(type) && variable.getConstantValue() != null);
        }
        if (variable.getKind() == ElementKind.FIELD && variable.getEnclosingElement().toString().equals(OUTER)) {
            boolean isConstant = Set.of("BAD", "STATE", "FULL", "NONE").contains(variable.toString());
            rule(1, tree, variable + " is private", isConstant || variable.getModifiers().contains(Modifier.PRIVATE));
        }
        return super.visitVariable(tree, none);
    }

    private static boolean isAllowed(TypeMirror type) {
        String name = type.toString();
        if (name.endsWith("[][]")) {
            return NUMBERS.contains(name.substring(0, name.length() - 4));
        }
        String plain = name.endsWith("[]") ? name.substring(0, name.length() - 2) : name;
        return plain.equals("void") || NUMBERS.contains(plain) || plain.equals(OUTER) || plain.startsWith(OUTER + ".");
    }

    @Override
    public Void visitImport(ImportTree tree, Void none) {
        rule(4, tree, tree.toString().trim(), tree.getQualifiedIdentifier().toString().equals("java.util.Arrays"));
        return null;
    }

    @Override
    public Void visitMemberSelect(MemberSelectTree tree, Void none) {
        checkField(tree);
        return super.visitMemberSelect(tree, none);
    }

    @Override
    public Void visitIdentifier(IdentifierTree tree, Void none) {
        checkField(tree);
        return super.visitIdentifier(tree, none);
    }

    private void checkField(Tree tree) {
        Element element = element(tree);
        if (element != null && element.getKind() == ElementKind.FIELD && !element.toString().equals("length")) {
            rule(4, tree, "field " + element, isOwn(element));
        }
    }

    @Override
    public Void visitLiteral(LiteralTree tree, Void none) {
        rule(3, tree, "literal " + tree, tree.getKind() != Tree.Kind.DOUBLE_LITERAL && tree.getKind() != Tree.Kind.FLOAT_LITERAL);
        if (tree.getValue() instanceof Character) {
            rule(4, tree, "sign " + tree, (Character) tree.getValue() < 128);
        }
        return null;
    }

    // ---- rule 6

    private Void refused(int number, Tree tree) {
        rule(number, tree, tree.getKind() + "", false);
        return null;
    }

    @Override
    public Void visitThrow(ThrowTree tree, Void none) {
        return refused(6, tree);
    }

    @Override
    public Void visitTry(TryTree tree, Void none) {
        return refused(6, tree);
    }

    @Override
    public Void visitSynchronized(SynchronizedTree tree, Void none) {
        return refused(6, tree);
    }

    @Override
    public Void visitAssert(AssertTree tree, Void none) {
        return refused(6, tree);
    }

    @Override
    public Void visitInstanceOf(InstanceOfTree tree, Void none) {
        return refused(6, tree);
    }

    @Override
    public Void visitSwitchExpression(SwitchExpressionTree tree, Void none) {
        return refused(10, tree);
    }

    @Override
    public Void visitLambdaExpression(LambdaExpressionTree tree, Void none) {
        return refused(2, tree);
    }

    @Override
    public Void visitMemberReference(MemberReferenceTree tree, Void none) {
        return refused(2, tree);
    }

    @Override
    public Void visitAnnotation(AnnotationTree tree, Void none) {
        return refused(4, tree);
    }

    @Override
    public Void visitTypeCast(TypeCastTree tree, Void none) {
        rule(6, tree, "cast to " + tree.getType(), NUMBERS.contains(tree.getType().toString()));
        return super.visitTypeCast(tree, none);
    }

    // ---- rule 9

    private void checkEnd(Tree loop, ExpressionTree condition) {
        boolean[] compares = new boolean[1];
        if (condition != null) {
            new TreePathScanner<Void, Void>() {
                @Override
                public Void visitBinary(BinaryTree tree, Void none) {
                    compares[0] |= COMPARISONS.contains(tree.getKind());
                    return super.visitBinary(tree, none);
                }
            }.scan(trees.getPath(unit, condition), null);
        }
        rule(9, loop, "a counter against a bound", compares[0]);
    }

    @Override
    public Void visitForLoop(ForLoopTree tree, Void none) {
        checkEnd(tree, tree.getCondition());
        return super.visitForLoop(tree, none);
    }

    @Override
    public Void visitWhileLoop(WhileLoopTree tree, Void none) {
        checkEnd(tree, tree.getCondition());
        return super.visitWhileLoop(tree, none);
    }

    @Override
    public Void visitDoWhileLoop(DoWhileLoopTree tree, Void none) {
        checkEnd(tree, tree.getCondition());
        return super.visitDoWhileLoop(tree, none);
    }

    // ---- rule 10

    @Override
    public Void visitBinary(BinaryTree tree, Void none) {
        TypeMirror type = trees.getTypeMirror(getCurrentPath());
        rule(10, tree, "no + of texts, no division by what may be 0", !type.toString().equals("java.lang.String"));
        if (tree.getKind() == Tree.Kind.DIVIDE || tree.getKind() == Tree.Kind.REMAINDER) {
            rule(7, tree, "divisor " + tree.getRightOperand(), isConstant(tree.getRightOperand()));
        }
        return super.visitBinary(tree, none);
    }

    @Override
    public Void visitCompoundAssignment(CompoundAssignmentTree tree, Void none) {
        rule(7, tree, tree.getKind() + "", tree.getKind() != Tree.Kind.DIVIDE_ASSIGNMENT
            && tree.getKind() != Tree.Kind.REMAINDER_ASSIGNMENT);
        return super.visitCompoundAssignment(tree, none);
    }

    private boolean isConstant(ExpressionTree tree) {
        Element element = element(tree);
        return element instanceof VariableElement && ((VariableElement) element).getConstantValue() instanceof Integer
            && (Integer) ((VariableElement) element).getConstantValue() != 0;
    }

    // ---- rules 4, 8, 11 and 12

    @Override
    public Void visitMethod(MethodTree tree, Void none) {
        Element method = element(tree);
        String name = nameOf(method);
        calls.put(name, new TreeSet<>());
        methods.put(name, tree);
        rule(11, tree, name + " takes " + tree.getParameters().size(), tree.getParameters().size() <= PARAMETERS);
        long lines = line(tree, true) - line(tree, false) + 1;
        rule(11, tree, name + " has " + lines + " lines", lines <= LINES || line(tree, false) == 0);
        rule(3, tree, name + " returns an allowed type", isAllowed(((ExecutableElement) method).getReturnType()));
        return super.visitMethod(tree, none);
    }

    private String methodAround() {
        for (var path = getCurrentPath(); path != null; path = path.getParentPath()) {
            if (path.getLeaf() instanceof MethodTree) {
                return nameOf(trees.getElement(path));
            }
        }
        return "";
    }

    private void checkCall(Tree tree) {
        Element called = element(tree);
        if (isOwn(called)) {
            if (calls.containsKey(methodAround())) {
                calls.get(methodAround()).add(nameOf(called));
            }
            return;
        }
        String name = called.getEnclosingElement() + "." + called.getSimpleName();
        rule(4, tree, "library: " + name, LIBRARY.contains(name));
    }

    @Override
    public Void visitMethodInvocation(MethodInvocationTree tree, Void none) {
        checkCall(tree);
        return super.visitMethodInvocation(tree, none);
    }

    @Override
    public Void visitNewClass(NewClassTree tree, Void none) {
        rule(2, tree, "no anonymous class", tree.getClassBody() == null);
        checkMaking(tree);
        checkCall(tree);
        return super.visitNewClass(tree, none);
    }

    @Override
    public Void visitNewArray(NewArrayTree tree, Void none) {
        checkMaking(tree);
        return super.visitNewArray(tree, none);
    }

    /** The rule allows more; but what is made in a constructor alone need not be counted for all calls. */
    private void checkMaking(Tree tree) {
        String around = methodAround();
        rule(12, tree, "made in a constructor: " + tree, around.isEmpty() || around.contains(".<init>("));
    }

    // ---- rules 8 and 11, of all calls together

    private boolean reaches(String from, String to, Set<String> met) {
        for (String next : calls.getOrDefault(from, Set.of())) {
            if (next.equals(to) || met.add(next) && reaches(next, to, met)) {
                return true;
            }
        }
        return false;
    }

    private boolean isRecursive(String method) {
        return reaches(method, method, new TreeSet<>());
    }

    /** How many methods stand open at most from this one on; those that call one another count once each. */
    private List<String> deepest(String method, List<String> open) {
        List<String> best = new ArrayList<>(open);
        best.add(method);
        List<String> here = List.copyOf(best);
        for (String next : calls.getOrDefault(method, Set.of())) {
            if (!here.contains(next)) {
                List<String> found = deepest(next, here);
                if (found.size() > best.size()) {
                    best = found;
                }
            }
        }
        return best;
    }

    private void checkDepths() {
        rule(11, unit, classes + " classes", classes <= CLASSES);
        for (String method : calls.keySet()) {
            MethodTree tree = methods.get(method);
            List<String> chain = deepest(method, List.of());
            rule(11, tree, "calls " + chain.size() + " deep: " + chain, chain.size() <= DEEP);
            if (isRecursive(method)) {
                Element element = element(tree);
                rule(8, tree, method + " is private", element.getModifiers().contains(Modifier.PRIVATE));
                rule(8, tree, method + " carries its depth", tree.getParameters().toString().contains("int depth"));
            }
        }
    }

    public static void main(String[] args) throws IOException {
        Path file = Path.of(args.length > 0 ? args[0] : "src/main/java/PassiveChecks.java");
        JavaCompiler compiler = ToolProvider.getSystemJavaCompiler();
        try (StandardJavaFileManager manager = compiler.getStandardFileManager(null, null, null)) {
            JavacTask task = (JavacTask) compiler.getTask(null, manager, null, List.of("-proc:none"), null,
                manager.getJavaFileObjects(file));
            for (CompilationUnitTree unit : task.parse()) {
                task.analyze();
                rulesOf(task, unit);
            }
        }
        Check.finish();
    }

    private static void rulesOf(JavacTask task, CompilationUnitTree unit) {
        LanguageTest test = new LanguageTest(Trees.instance(task), unit);
        test.rule(0, unit, "no package", unit.getPackageName() == null);
        test.rule(0, unit, "one class", unit.getTypeDecls().size() == 1);
        test.scan(unit, null);
        test.rule(11, unit, "methods were found", test.calls.size() > 100);
        test.checkDepths();
    }
}
