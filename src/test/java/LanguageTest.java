import com.sun.source.tree.ArrayAccessTree;
import com.sun.source.tree.AssertTree;
import com.sun.source.tree.BinaryTree;
import com.sun.source.tree.BlockTree;
import com.sun.source.tree.ClassTree;
import com.sun.source.tree.CompilationUnitTree;
import com.sun.source.tree.CompoundAssignmentTree;
import com.sun.source.tree.DoWhileLoopTree;
import com.sun.source.tree.EnhancedForLoopTree;
import com.sun.source.tree.ExpressionTree;
import com.sun.source.tree.ForLoopTree;
import com.sun.source.tree.ImportTree;
import com.sun.source.tree.InstanceOfTree;
import com.sun.source.tree.LambdaExpressionTree;
import com.sun.source.tree.LiteralTree;
import com.sun.source.tree.MemberReferenceTree;
import com.sun.source.tree.MethodInvocationTree;
import com.sun.source.tree.MethodTree;
import com.sun.source.tree.NewArrayTree;
import com.sun.source.tree.NewClassTree;
import com.sun.source.tree.SynchronizedTree;
import com.sun.source.tree.ThrowTree;
import com.sun.source.tree.Tree;
import com.sun.source.tree.TryTree;
import com.sun.source.tree.TypeCastTree;
import com.sun.source.tree.VariableTree;
import com.sun.source.tree.WhileLoopTree;
import com.sun.source.util.JavacTask;
import com.sun.source.util.TreePath;
import com.sun.source.util.TreePathScanner;
import com.sun.source.util.Trees;
import java.io.File;
import java.io.IOException;
import java.util.HashSet;
import java.util.List;
import java.util.Map;
import java.util.Set;
import java.util.TreeMap;
import java.util.TreeSet;
import javax.lang.model.element.Element;
import javax.lang.model.element.ElementKind;
import javax.lang.model.element.Modifier;
import javax.lang.model.type.ArrayType;
import javax.lang.model.type.DeclaredType;
import javax.lang.model.type.TypeKind;
import javax.lang.model.type.TypeMirror;
import javax.tools.JavaCompiler;
import javax.tools.StandardJavaFileManager;
import javax.tools.ToolProvider;

/**
 * The rules of ../shared/LANGUAGE.md, told by the compiler's own view of the program. The test is
 * narrower than the rules where the program needs less: no loop but "for", no cast, no catch.
 */
public final class LanguageTest extends TreePathScanner<Void, Void> {
    private static final File PROGRAM = new File("src/main/java/HingeNumbers.java");
    private static final Set<String> LIBRARY = Set.of("java.lang.Math.max(int,int)", "java.lang.Math.min(int,int)",
            "java.util.Arrays.fill(int[],int)", "java.util.Arrays.copyOf(int[],int)");
    private static final Set<String> EXCEPTIONS = Set.of("java.lang.IllegalStateException",
            "java.lang.IllegalArgumentException", "java.lang.IndexOutOfBoundsException");
    private static final Set<TypeKind> PLAIN = Set.of(TypeKind.INT, TypeKind.CHAR, TypeKind.BOOLEAN);

    private final CompilationUnitTree unit;
    private final Trees trees;
    /** The methods and constructors of the program, each with those that it calls. */
    private final Map<String, Set<String>> calls = new TreeMap<>();
    private final Set<String> closedMethods = new HashSet<>();
    private final Set<String> face = new TreeSet<>();
    private String method = "";
    private int loops = 0;
    private int classes = 0;

    private LanguageTest(CompilationUnitTree unit, Trees trees) {
        this.unit = unit;
        this.trees = trees;
    }

    public static void main(String[] args) throws IOException {
        JavaCompiler compiler = ToolProvider.getSystemJavaCompiler();
        try (StandardJavaFileManager files = compiler.getStandardFileManager(null, null, null)) {
            JavacTask task = (JavacTask) compiler.getTask(null, files, null, List.of("-proc:none"), null,
                    files.getJavaFileObjects(PROGRAM));
            CompilationUnitTree unit = task.parse().iterator().next();
            task.analyze();
            LanguageTest test = new LanguageTest(unit, Trees.instance(task));
            test.scan(unit, null);
            test.wholeFile();
            test.depthOfCalls();
        }
        Checks.end();
    }

    private void check(boolean holds, String rule, Tree tree) {
        long line = unit.getLineMap().getLineNumber(start(tree));
        Checks.same("rule " + rule + " in line " + line, holds, true);
    }

    private long start(Tree tree) {
        return trees.getSourcePositions().getStartPosition(unit, tree);
    }

    private int lines(Tree tree) {
        long end = trees.getSourcePositions().getEndPosition(unit, tree);
        return (int) (unit.getLineMap().getLineNumber(end) - unit.getLineMap().getLineNumber(start(tree)) + 1);
    }

    private Element element(Tree tree) {
        return trees.getElement(new TreePath(getCurrentPath(), tree));
    }

    private TypeMirror type(Tree tree) {
        return trees.getTypeMirror(new TreePath(getCurrentPath(), tree));
    }

    private static boolean isOwn(String name) {
        return name.equals("HingeNumbers") || name.startsWith("HingeNumbers.");
    }

    private boolean isOwnType(TypeMirror type) {
        return type.getKind() == TypeKind.DECLARED && isOwn(((DeclaredType) type).asElement().toString());
    }

    // Rules 1, 4, 11
    private void wholeFile() {
        Checks.same("rule 1: a package line", unit.getPackageName() == null, true);
        Checks.same("rule 1: one class", unit.getTypeDecls().size(), 1);
        for (ImportTree one : unit.getImports()) {
            check(one.getQualifiedIdentifier().toString().equals("java.util.Arrays"), "4: imports", one);
        }
        Checks.same("rule 11: some twelve classes at the most: " + classes, classes >= 2 && classes <= 12, true);
        Checks.same("the face was found, with its constructor", face.size(), 28);
    }

    @Override
    public Void visitClass(ClassTree tree, Void none) {
        Element own = trees.getElement(getCurrentPath());
        boolean inside = !own.getSimpleName().contentEquals("HingeNumbers");
        classes++;
        check(tree.getKind() == Tree.Kind.CLASS, "2: plain classes", tree);
        check(own.getModifiers().contains(Modifier.FINAL), "12: no method can be overridden", tree);
        check(own.getModifiers().contains(Modifier.PUBLIC) != inside, "1: one public class", tree);
        check(!inside || own.getModifiers().contains(Modifier.STATIC), "1: classes inside are static", tree);
        check(!inside || own.getEnclosingElement().getKind().isClass(), "2: no local class", tree);
        check(tree.getExtendsClause() == null && tree.getImplementsClause().isEmpty(), "6: no class extends", tree);
        int fields = 0;
        for (Tree member : tree.getMembers()) {
            check(member.getKind() != Tree.Kind.BLOCK, "5: no initialiser block", tree);
            if (member instanceof VariableTree field) {
                fields += field.getModifiers().getFlags().contains(Modifier.STATIC) ? 0 : 1;
            }
        }
        check(fields <= 20, "11: some twenty fields", tree);
        String before = method;
        method = own + " fields";
        calls.put(method, new TreeSet<>());
        super.visitClass(tree, none);
        fieldsAreMadeByConstructors(own, calls.remove(method));
        method = before;
        return null;
    }

    private void fieldsAreMadeByConstructors(Element own, Set<String> called) {
        for (Element member : own.getEnclosedElements()) {
            if (member.getKind() == ElementKind.CONSTRUCTOR) {
                calls.get(own + "." + member).addAll(called);
            }
        }
    }

    @Override
    public Void visitVariable(VariableTree tree, Void none) {
        Element own = trees.getElement(getCurrentPath());
        TypeMirror type = own.asType();
        check(isPlain(type) || isOwnType(type), "3: types", tree);
        if (own.getKind() == ElementKind.FIELD && own.getModifiers().contains(Modifier.STATIC)) {
            check(own.getModifiers().contains(Modifier.FINAL), "5: static fields are final", tree);
            check(PLAIN.contains(type.getKind()), "5: static fields are constants", tree);
        }
        if (own.getKind() == ElementKind.FIELD) {
            String access = own.getModifiers().contains(Modifier.PUBLIC) ? "NONE" : "";
            check(access.isEmpty() ? own.getModifiers().contains(Modifier.PRIVATE)
                    : own.getSimpleName().contentEquals(access), "1: no other public field", tree);
        }
        return super.visitVariable(tree, none);
    }

    private boolean isPlain(TypeMirror type) {
        if (type.getKind() == TypeKind.ARRAY) {
            TypeMirror part = ((ArrayType) type).getComponentType();
            return PLAIN.contains(part.getKind()) || isOwnType(part);
        }
        return PLAIN.contains(type.getKind());
    }

    @Override
    public Void visitMethod(MethodTree tree, Void none) {
        Element own = trees.getElement(getCurrentPath());
        String before = method;
        method = own.getEnclosingElement() + "." + own;
        calls.computeIfAbsent(method, name -> new TreeSet<>());
        if (own.getModifiers().contains(Modifier.PRIVATE)) {
            closedMethods.add(method);
        }
        if (own.getModifiers().contains(Modifier.PUBLIC)) {
            face.add(method);
            check(own.getEnclosingElement().toString().equals("HingeNumbers"), "1: the face is one class's", tree);
        }
        check(tree.getParameters().size() <= 7, "11: seven parameters", tree);
        check(lines(tree) <= 60, "11: sixty lines", tree);
        check(!Set.of("equals", "hashCode", "toString").contains(tree.getName().toString()), "6: no " + method, tree);
        super.visitMethod(tree, none);
        method = before;
        return null;
    }

    // ---- what a method calls and makes

    private void callOf(Element called, Tree tree) {
        String name = called.getEnclosingElement() + "." + called;
        if (isOwn(called.getEnclosingElement().toString())) {
            calls.get(method).add(name);
        } else {
            check(LIBRARY.contains(name), "4: the library, not " + name, tree);
        }
    }

    @Override
    public Void visitMethodInvocation(MethodInvocationTree tree, Void none) {
        Element called = trees.getElement(getCurrentPath());
        boolean toParent = tree.getMethodSelect().toString().equals("super");
        if (!toParent) {
            callOf(called, tree);
        }
        return super.visitMethodInvocation(tree, none);
    }

    @Override
    public Void visitNewClass(NewClassTree tree, Void none) {
        Element made = trees.getElement(getCurrentPath());
        String name = made.getEnclosingElement().toString();
        check(tree.getClassBody() == null, "2: no anonymous class", tree);
        check(loops == 0, "12: no object in a loop", tree);
        check(isOwn(name) || EXCEPTIONS.contains(name), "4: no object of " + name, tree);
        if (isOwn(name)) {
            calls.get(method).add(name + "." + made);
        }
        return super.visitNewClass(tree, none);
    }

    @Override
    public Void visitNewArray(NewArrayTree tree, Void none) {
        check(loops == 0, "12: no array in a loop", tree);
        check(tree.getDimensions().size() <= 1, "3: rows of one dimension", tree);
        return super.visitNewArray(tree, none);
    }

    // ---- what rules 2, 6 and 10 leave out

    @Override
    public Void visitThrow(ThrowTree tree, Void none) {
        check(tree.getExpression() instanceof NewClassTree made && made.getArguments().size() <= 1
                && made.getArguments().stream().allMatch(text -> text instanceof LiteralTree),
                "6: throw new E with a written text", tree);
        check(EXCEPTIONS.contains(type(tree.getExpression()).toString()), "6: listed exceptions", tree);
        check(isOwn(method.substring(0, method.indexOf('('))) && method.lastIndexOf('.') == "HingeNumbers".length(),
                "6: the face and what it asks throws, not " + method, tree);
        check(!method.startsWith("HingeNumbers.HingeNumbers("), "6: no throw in a constructor", tree);
        return super.visitThrow(tree, none);
    }

    @Override
    public Void visitTry(TryTree tree, Void none) {
        check(false, "6: nothing to catch", tree);
        return super.visitTry(tree, none);
    }

    @Override
    public Void visitAssert(AssertTree tree, Void none) {
        check(false, "6: no assert", tree);
        return super.visitAssert(tree, none);
    }

    @Override
    public Void visitSynchronized(SynchronizedTree tree, Void none) {
        check(false, "6: no synchronized", tree);
        return super.visitSynchronized(tree, none);
    }

    @Override
    public Void visitLambdaExpression(LambdaExpressionTree tree, Void none) {
        check(false, "2: no lambda", tree);
        return super.visitLambdaExpression(tree, none);
    }

    @Override
    public Void visitMemberReference(MemberReferenceTree tree, Void none) {
        check(false, "2: no method reference", tree);
        return super.visitMemberReference(tree, none);
    }

    @Override
    public Void visitInstanceOf(InstanceOfTree tree, Void none) {
        check(false, "6: no instanceof is needed", tree);
        return super.visitInstanceOf(tree, none);
    }

    @Override
    public Void visitTypeCast(TypeCastTree tree, Void none) {
        check(false, "6: no cast is needed", tree);
        return super.visitTypeCast(tree, none);
    }

    @Override
    public Void visitBinary(BinaryTree tree, Void none) {
        TypeMirror left = type(tree.getLeftOperand());
        TypeMirror right = type(tree.getRightOperand());
        boolean isWithNull = right.getKind() == TypeKind.NULL && isOwnType(left);
        check(left.getKind().isPrimitive() && right.getKind().isPrimitive() || isWithNull,
                "10: numbers are joined and compared, nothing else", tree);
        if (tree.getKind() == Tree.Kind.DIVIDE || tree.getKind() == Tree.Kind.REMAINDER) {
            divisor(tree.getRightOperand(), tree);
        }
        return super.visitBinary(tree, none);
    }

    @Override
    public Void visitCompoundAssignment(CompoundAssignmentTree tree, Void none) {
        check(tree.getKind() != Tree.Kind.DIVIDE_ASSIGNMENT && tree.getKind() != Tree.Kind.REMAINDER_ASSIGNMENT,
                "7: divisors are looked at", tree);
        return super.visitCompoundAssignment(tree, none);
    }

    // ---- rule 7: what is looked at before it is used

    private void divisor(ExpressionTree divisor, Tree tree) {
        String body = bodyOf(getCurrentPath());
        boolean isWritten = divisor instanceof LiteralTree literal && !literal.getValue().equals(0);
        boolean isTested = body.contains("if (" + divisor + " <= 0)");
        boolean countsFrom2 = body.contains("int " + divisor + " = 2; ");
        check(isWritten || isTested || countsFrom2, "7: a divisor is looked at", tree);
    }

    @Override
    public Void visitArrayAccess(ArrayAccessTree tree, Void none) {
        check(bodyOf(getCurrentPath()).contains(tree.getExpression() + ".length"), "7: an index is looked at", tree);
        return super.visitArrayAccess(tree, none);
    }

    private static String bodyOf(TreePath path) {
        TreePath place = path;
        while (!(place.getLeaf() instanceof MethodTree)) {
            place = place.getParentPath();
        }
        BlockTree body = ((MethodTree) place.getLeaf()).getBody();
        return body.toString();
    }

    // ---- rule 9: loops

    @Override
    public Void visitForLoop(ForLoopTree tree, Void none) {
        check(tree.getInitializer().size() == 1 && tree.getCondition() != null && tree.getUpdate().size() == 1,
                "9: a loop counts against a bound", tree);
        loops++;
        super.visitForLoop(tree, none);
        loops--;
        return null;
    }

    @Override
    public Void visitEnhancedForLoop(EnhancedForLoopTree tree, Void none) {
        check(false, "4: no loop makes an iterator", tree);
        return super.visitEnhancedForLoop(tree, none);
    }

    @Override
    public Void visitWhileLoop(WhileLoopTree tree, Void none) {
        check(false, "9: no loop without a counter", tree);
        return super.visitWhileLoop(tree, none);
    }

    @Override
    public Void visitDoWhileLoop(DoWhileLoopTree tree, Void none) {
        check(false, "9: no loop without a counter", tree);
        return super.visitDoWhileLoop(tree, none);
    }

    // ---- rules 8 and 11: recursion, and how deep calls go

    private void depthOfCalls() {
        for (String first : face) {
            int deepest = deepest(first, new HashSet<>());
            Checks.same("rule 11: calls of " + first + " go " + deepest + " deep", deepest <= 8, true);
        }
        for (String one : calls.keySet()) {
            if (reached(one).contains(one)) {
                Checks.same("rule 8: " + one + " is private", closedMethods.contains(one), true);
                boolean isGuarded = reached(one).stream().filter(other -> reached(other).contains(one))
                        .anyMatch(other -> calls.get(other).toString().contains(".mayUse("));
                Checks.same("rule 8: " + one + " has a guard on the depth", isGuarded, true);
            }
        }
    }

    /** A call of a method that is at work already is recursion, and not counted. */
    private int deepest(String name, Set<String> open) {
        if (!open.add(name)) {
            return 0;
        }
        int deepest = 0;
        for (String called : calls.getOrDefault(name, Set.of())) {
            deepest = Math.max(deepest, deepest(called, open));
        }
        open.remove(name);
        return deepest + 1;
    }

    private Set<String> reached(String name) {
        Set<String> reached = new HashSet<>();
        Set<String> next = new HashSet<>(calls.getOrDefault(name, Set.of()));
        while (!next.isEmpty()) {
            reached.addAll(next);
            Set<String> further = new HashSet<>();
            next.forEach(one -> further.addAll(calls.getOrDefault(one, Set.of())));
            further.removeAll(reached);
            next = further;
        }
        return reached;
    }
}
