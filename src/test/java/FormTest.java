import com.sun.source.tree.AssertTree;
import com.sun.source.tree.BinaryTree;
import com.sun.source.tree.BlockTree;
import com.sun.source.tree.ClassTree;
import com.sun.source.tree.CompilationUnitTree;
import com.sun.source.tree.CompoundAssignmentTree;
import com.sun.source.tree.ExpressionTree;
import com.sun.source.tree.IdentifierTree;
import com.sun.source.tree.LambdaExpressionTree;
import com.sun.source.tree.LiteralTree;
import com.sun.source.tree.MemberReferenceTree;
import com.sun.source.tree.MethodInvocationTree;
import com.sun.source.tree.MethodTree;
import com.sun.source.tree.NewArrayTree;
import com.sun.source.tree.NewClassTree;
import com.sun.source.tree.SynchronizedTree;
import com.sun.source.tree.ThrowTree;
import com.sun.source.tree.Tree;
import com.sun.source.tree.TryTree;
import com.sun.source.tree.TypeCastTree;
import com.sun.source.tree.VariableTree;
import com.sun.source.util.JavacTask;
import com.sun.source.util.TreePathScanner;
import com.sun.source.util.Trees;
import java.nio.file.Path;
import java.util.ArrayDeque;
import java.util.Deque;
import java.util.HashSet;
import java.util.LinkedHashMap;
import java.util.List;
import java.util.Map;
import java.util.Set;
import java.util.TreeSet;
import javax.lang.model.element.Element;
import javax.lang.model.element.ElementKind;
import javax.lang.model.element.Modifier;
import javax.lang.model.element.TypeElement;
import javax.tools.JavaCompiler;
import javax.tools.StandardJavaFileManager;
import javax.tools.ToolProvider;

/**
 * The rules of LANGUAGE.md that can be read off the source, as narrow as the class needs them: it
 * has no library but the exceptions, and makes nothing behind its constructor. A rule that a later
 * form of the class makes use of has to be let in here.
 */
public final class FormTest extends TreePathScanner<Void, Void> {
    private static final Due DUE = new Due("FormTest");
    private static final Set<String> EXCEPTIONS = Set.of("IllegalStateException", "IllegalArgumentException",
            "IndexOutOfBoundsException", "ArithmeticException", "UnsupportedOperationException",
            "NoSuchElementException", "RuntimeException");
    private static final Set<String> CONSTANTS = Set.of("int", "long", "boolean", "char", "java.lang.String");

    private final CompilationUnitTree unit;
    private final Trees trees;
    private final Set<String> wrong = new TreeSet<>();
    private final Map<Element, Set<Element>> calls = new LinkedHashMap<>();
    private final Set<String> publicNames = new TreeSet<>();
    private final Deque<MethodTree> methods = new ArrayDeque<>();
    private int classes = 0;

    private FormTest(CompilationUnitTree unit, Trees trees) {
        this.unit = unit;
        this.trees = trees;
    }

    public static void main(String[] args) throws Exception {
        JavaCompiler compiler = ToolProvider.getSystemJavaCompiler();
        try (StandardJavaFileManager files = compiler.getStandardFileManager(null, null, null)) {
            JavacTask task = (JavacTask) compiler.getTask(null, files, null, List.of("--release", "17"), null,
                    files.getJavaFileObjects(Path.of("src/main/java/CueTour.java")));
            CompilationUnitTree unit = task.parse().iterator().next();
            task.analyze();
            new FormTest(unit, Trees.instance(task)).read();
        }
        DUE.end();
    }

    private void read() {
        rule(1, unit.getPackageName() == null, "has a package line");
        rule(1, unit.getTypeDecls().size() == 1, "has more than one class outside");
        rule(4, unit.getImports().isEmpty(), "imports");
        scan(unit, null);
        rule(11, classes <= 12, "has " + classes + " classes");
        for (Element method : calls.keySet()) {
            boolean isPublic = method.getModifiers().contains(Modifier.PUBLIC);
            rule(1, isPublic || !publicNames.contains(method.getSimpleName().toString()),
                    method + " has a public one's name");
            rule(11, depth(method, new HashSet<>()) <= 8, method + " goes too deep, or round");
        }
        DUE.is("methods read", calls.size() > 35, true);
        DUE.is("what is against the rules", wrong, Set.of());
    }

    private void rule(int number, boolean holds, String what) {
        if (!holds) {
            wrong.add("rule " + number + ": " + what);
        }
    }

    private Element element() {
        return trees.getElement(getCurrentPath());
    }

    private long line(Tree tree) {
        return unit.getLineMap().getLineNumber(trees.getSourcePositions().getStartPosition(unit, tree));
    }

    private void banned(int number, Tree tree, String what) {
        rule(number, false, what + " in line " + line(tree));
    }

    /** How many calls stand open at once below a method, itself counted; more than 8 on a way round. */
    private int depth(Element method, Set<Element> open) {
        if (!open.add(method)) {
            return 9;
        }
        int deepest = 0;
        for (Element called : calls.getOrDefault(method, Set.of())) {
            deepest = Math.max(deepest, depth(called, open));
        }
        open.remove(method);
        return deepest + 1;
    }

    @Override
    public Void visitClass(ClassTree tree, Void none) {
        classes++;
        Element element = element();
        Set<Modifier> modifiers = element.getModifiers();
        boolean isOutside = classes == 1;
        rule(2, isOutside || modifiers.contains(Modifier.STATIC), element + " is not static");
        rule(2, element.getKind() == ElementKind.CLASS, element + " is no plain class");
        long fields = tree.getMembers().stream().filter(each -> each instanceof VariableTree field
                && !field.getModifiers().getFlags().contains(Modifier.STATIC)).count();
        rule(11, fields <= 20, element + " has " + fields + " fields");
        boolean hasStaticBlock = tree.getMembers().stream().anyMatch(each -> each instanceof BlockTree);
        rule(5, !hasStaticBlock, element + " has a block of its own");
        return super.visitClass(tree, none);
    }

    @Override
    public Void visitMethod(MethodTree tree, Void none) {
        Element element = element();
        calls.put(element, new HashSet<>());
        if (element.getKind() == ElementKind.METHOD && element.getModifiers().contains(Modifier.PUBLIC)) {
            publicNames.add(tree.getName().toString());
        }
        rule(11, tree.getParameters().size() <= 7, element + " has too many parameters");
        long end = unit.getLineMap().getLineNumber(trees.getSourcePositions().getEndPosition(unit, tree));
        rule(11, end - line(tree) < 60, element + " is too long");
        Set<String> own = Set.of("equals", "hashCode", "toString");
        rule(6, !own.contains(tree.getName().toString()), element + " is no method of its own");
        methods.push(tree);
        super.visitMethod(tree, none);
        methods.pop();
        return null;
    }

    @Override
    public Void visitVariable(VariableTree tree, Void none) {
        Element element = element();
        Set<Modifier> modifiers = element.getModifiers();
        if (modifiers.contains(Modifier.STATIC)) {
            rule(5, modifiers.contains(Modifier.FINAL), element + " is not final");
            rule(5, CONSTANTS.contains(element.asType().toString()), element + " is no constant");
        }
        rule(3, !element.asType().toString().contains("[][][]"), element + " has too many dimensions");
        return super.visitVariable(tree, none);
    }

    @Override
    public Void visitMethodInvocation(MethodInvocationTree tree, Void none) {
        Element called = element();
        MethodTree within = methods.peek();
        boolean isSuper = called.getKind() == ElementKind.CONSTRUCTOR;
        if (within != null && !isSuper) {
            calls.get(trees.getElement(trees.getPath(unit, within))).add(called);
        }
        rule(4, isSuper || outermost(called).equals("CueTour"), called + " is called in line " + line(tree));
        return super.visitMethodInvocation(tree, none);
    }

    private static String outermost(Element element) {
        Element outer = element;
        while (!(outer instanceof TypeElement && outer.getEnclosingElement().getKind() == ElementKind.PACKAGE)) {
            outer = outer.getEnclosingElement();
        }
        return outer.toString();
    }

    @Override
    public Void visitIdentifier(IdentifierTree tree, Void none) {
        Element element = element();
        boolean isOwn = !(element instanceof TypeElement) || outermost(element).equals("CueTour");
        rule(4, isOwn || EXCEPTIONS.contains(tree.getName().toString()), tree + " in line " + line(tree));
        return super.visitIdentifier(tree, none);
    }

    @Override
    public Void visitThrow(ThrowTree tree, Void none) {
        boolean isNew = tree.getExpression() instanceof NewClassTree made
                && EXCEPTIONS.contains(made.getIdentifier().toString())
                && made.getArguments().stream().allMatch(FormTest::isText) && made.getArguments().size() <= 1;
        rule(6, isNew, "what is thrown in line " + line(tree));
        boolean isInMethod = !methods.isEmpty() && methods.peek().getReturnType() != null;
        rule(6, isInMethod, "a throw in a constructor, line " + line(tree));
        return super.visitThrow(tree, none);
    }

    private static boolean isText(ExpressionTree tree) {
        return tree instanceof LiteralTree literal && literal.getValue() instanceof String;
    }

    /** Nothing is made but with the object itself, so that the calls of a run take no room. */
    @Override
    public Void visitNewArray(NewArrayTree tree, Void none) {
        rule(12, isInConstructor(), "an array is made in line " + line(tree));
        return super.visitNewArray(tree, none);
    }

    @Override
    public Void visitNewClass(NewClassTree tree, Void none) {
        boolean isThrown = EXCEPTIONS.contains(tree.getIdentifier().toString());
        rule(12, isThrown || isInConstructor(), "an object is made in line " + line(tree));
        rule(2, tree.getClassBody() == null, "a class without a name in line " + line(tree));
        return super.visitNewClass(tree, none);
    }

    private boolean isInConstructor() {
        return methods.isEmpty() || methods.peek().getReturnType() == null;
    }

    @Override
    public Void visitBinary(BinaryTree tree, Void none) {
        boolean isText = trees.getTypeMirror(getCurrentPath()).toString().equals("java.lang.String");
        rule(10, !isText, "texts joined by + in line " + line(tree));
        return super.visitBinary(tree, none);
    }

    @Override
    public Void visitCompoundAssignment(CompoundAssignmentTree tree, Void none) {
        boolean isText = trees.getTypeMirror(getCurrentPath()).toString().equals("java.lang.String");
        rule(10, !isText, "texts joined by += in line " + line(tree));
        return super.visitCompoundAssignment(tree, none);
    }

    @Override
    public Void visitLambdaExpression(LambdaExpressionTree tree, Void none) {
        banned(2, tree, "a lambda");
        return super.visitLambdaExpression(tree, none);
    }

    @Override
    public Void visitMemberReference(MemberReferenceTree tree, Void none) {
        banned(2, tree, "a method reference");
        return super.visitMemberReference(tree, none);
    }

    @Override
    public Void visitTry(TryTree tree, Void none) {
        banned(6, tree, "a try");
        return super.visitTry(tree, none);
    }

    @Override
    public Void visitSynchronized(SynchronizedTree tree, Void none) {
        banned(6, tree, "synchronized");
        return super.visitSynchronized(tree, none);
    }

    @Override
    public Void visitAssert(AssertTree tree, Void none) {
        banned(6, tree, "assert");
        return super.visitAssert(tree, none);
    }

    @Override
    public Void visitTypeCast(TypeCastTree tree, Void none) {
        banned(6, tree, "a cast");
        return super.visitTypeCast(tree, none);
    }
}
