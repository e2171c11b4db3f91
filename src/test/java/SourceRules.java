import com.sun.source.tree.AssertTree;
import com.sun.source.tree.BinaryTree;
import com.sun.source.tree.CatchTree;
import com.sun.source.tree.ClassTree;
import com.sun.source.tree.CompilationUnitTree;
import com.sun.source.tree.CompoundAssignmentTree;
import com.sun.source.tree.DoWhileLoopTree;
import com.sun.source.tree.ExpressionTree;
import com.sun.source.tree.ForLoopTree;
import com.sun.source.tree.LambdaExpressionTree;
import com.sun.source.tree.LiteralTree;
import com.sun.source.tree.MemberReferenceTree;
import com.sun.source.tree.MethodInvocationTree;
import com.sun.source.tree.MethodTree;
import com.sun.source.tree.NewClassTree;
import com.sun.source.tree.SynchronizedTree;
import com.sun.source.tree.ThrowTree;
import com.sun.source.tree.Tree;
import com.sun.source.tree.TryTree;
import com.sun.source.tree.VariableTree;
import com.sun.source.tree.WhileLoopTree;
import com.sun.source.util.JavacTask;
import com.sun.source.util.TreePath;
import com.sun.source.util.TreePathScanner;
import com.sun.source.util.Trees;
import java.io.IOException;
import java.nio.file.Path;
import java.util.HashMap;
import java.util.HashSet;
import java.util.List;
import java.util.Map;
import java.util.Set;
import java.util.TreeMap;
import java.util.TreeSet;
import javax.lang.model.element.Element;
import javax.lang.model.element.ElementKind;
import javax.lang.model.element.ExecutableElement;
import javax.lang.model.element.Modifier;
import javax.lang.model.type.ArrayType;
import javax.lang.model.type.TypeKind;
import javax.lang.model.type.TypeMirror;
import javax.tools.StandardJavaFileManager;
import javax.tools.ToolProvider;

/** Reads a source as the compiler does and tells where it leaves the part of Java that ../shared/LANGUAGE.md leaves. */
final class SourceRules extends TreePathScanner<Void, Void> {
    private static final Set<String> LIBRARY = Set.of("java.lang.String.length", "java.lang.String.charAt",
            "java.lang.String.isEmpty", "java.lang.String.equals", "java.lang.String.substring",
            "java.lang.String.toCharArray", "java.lang.Integer.bitCount", "java.lang.Long.bitCount", "java.lang.Math.min",
            "java.lang.Math.max", "java.lang.Math.abs", "java.lang.System.arraycopy", "java.lang.Object.<init>",
            "java.lang.String.<init>(char[])");
    private static final Set<String> THROWN = Set.of("IllegalStateException", "IllegalArgumentException",
            "IndexOutOfBoundsException");
    private static final int MOST_PARAMETERS = 7;
    private static final int MOST_LINES = 60;
    private static final int MOST_CLASSES = 12;
    private static final int MOST_FIELDS = 20;
    private static final int MOST_DEEP = 8;

    private final Set<String> broken = new TreeSet<>();
    private final Map<String, Set<String>> calls = new TreeMap<>();
    private final Trees trees;
    private final CompilationUnitTree unit;
    private int classes;

    private SourceRules(Trees trees, CompilationUnitTree unit) {
        this.trees = trees;
        this.unit = unit;
    }

    /** The rules that the source breaks, with the line of each. */
    static Set<String> brokenIn(Path source) throws IOException {
        var compiler = ToolProvider.getSystemJavaCompiler();
        try (StandardJavaFileManager files = compiler.getStandardFileManager(null, null, null)) {
            JavacTask task = (JavacTask) compiler.getTask(null, files, null, List.of("-proc:none"), null,
                    files.getJavaFileObjects(source));
            CompilationUnitTree unit = task.parse().iterator().next();
            task.analyze();
            SourceRules rules = new SourceRules(Trees.instance(task), unit);
            rules.check(unit.getPackageName() != null || !unit.getImports().isEmpty(), unit, "1 a package or an import");
            rules.scan(unit, null);
            rules.check(rules.classes > MOST_CLASSES, unit, "11 too many classes");
            rules.checkDepth();
            return rules.broken;
        }
    }

    private void check(boolean isBroken, Tree at, String rule) {
        if (isBroken) {
            long line = unit.getLineMap().getLineNumber(Math.max(0, trees.getSourcePositions().getStartPosition(unit, at)));
            broken.add("rule " + rule + " in line " + line);
        }
    }

    private TypeMirror typeOf(Tree tree) {
        return trees.getTypeMirror(new TreePath(getCurrentPath(), tree));
    }

    private Element elementOf(Tree tree) {
        return trees.getElement(new TreePath(getCurrentPath(), tree));
    }

    private String methodHere() {
        for (TreePath path = getCurrentPath(); path != null; path = path.getParentPath()) {
            if (path.getLeaf() instanceof MethodTree) {
                return named((ExecutableElement) trees.getElement(path));
            }
        }
        return "a field";
    }

    private static String named(ExecutableElement method) {
        return method.getEnclosingElement() + "." + method.getSimpleName();
    }

    private static boolean isOwn(Element element) {
        return element.toString().startsWith("Seatpower") || String.valueOf(element.getEnclosingElement())
                .startsWith("Seatpower");
    }

    @Override
    public Void visitClass(ClassTree tree, Void nothing) {
        classes++;
        Element element = trees.getElement(getCurrentPath());
        Element around = element.getEnclosingElement();
        boolean isOuter = around.getKind() == ElementKind.PACKAGE;
        Set<Modifier> modifiers = element.getModifiers();
        check(isOuter && !modifiers.containsAll(Set.of(Modifier.PUBLIC, Modifier.FINAL)), tree, "1 the class");
        check(!isOuter && !around.getKind().isClass(), tree, "2 a local class");
        check(!isOuter && (!modifiers.contains(Modifier.STATIC) || modifiers.contains(Modifier.PUBLIC)
                || modifiers.contains(Modifier.PROTECTED)), tree, "1 a class inside");
        long fields = tree.getMembers().stream().filter(member -> member instanceof VariableTree field
                && !field.getModifiers().getFlags().contains(Modifier.STATIC)).count();
        check(fields > MOST_FIELDS, tree, "11 too many fields");
        check(tree.getMembers().stream().anyMatch(member -> member.getKind() == Tree.Kind.BLOCK), tree,
                "5 an initialiser block");
        return super.visitClass(tree, nothing);
    }

    @Override
    public Void visitMethod(MethodTree tree, Void nothing) {
        ExecutableElement method = (ExecutableElement) trees.getElement(getCurrentPath());
        calls.computeIfAbsent(named(method), key -> new TreeSet<>());
        check(tree.getParameters().size() > MOST_PARAMETERS, tree, "11 too many parameters");
        long first = unit.getLineMap().getLineNumber(trees.getSourcePositions().getStartPosition(unit, tree.getBody()));
        long last = unit.getLineMap().getLineNumber(trees.getSourcePositions().getEndPosition(unit, tree.getBody()));
        check(last - first > MOST_LINES, tree, "11 a long method");
        boolean isOuter = method.getEnclosingElement().toString().equals("Seatpower");
        check(isOuter && !method.getModifiers().contains(Modifier.PUBLIC)
                && !method.getModifiers().contains(Modifier.PRIVATE), tree, "1 a visible method");
        checkType(method.getReturnType(), tree);
        return super.visitMethod(tree, nothing);
    }

    @Override
    public Void visitVariable(VariableTree tree, Void nothing) {
        Element element = trees.getElement(getCurrentPath());
        TypeMirror type = element.asType();
        checkType(type, tree);
        if (element.getKind() == ElementKind.FIELD) {
            boolean isStatic = element.getModifiers().contains(Modifier.STATIC);
            check(isStatic && !element.getModifiers().contains(Modifier.FINAL), tree, "5 a static field that changes");
            check(isStatic && type.getKind() == TypeKind.ARRAY && tree.getInitializer().getKind() != Tree.Kind.NEW_ARRAY,
                    tree, "5 an array that is not written out");
            boolean isInOuter = element.getEnclosingElement().toString().equals("Seatpower");
            check(isInOuter && !element.getModifiers().contains(Modifier.PRIVATE), tree, "1 a visible field");
        }
        return super.visitVariable(tree, nothing);
    }

    /** Numbers, truths, signs, texts, own classes; rows of these, and of rows of numbers. */
    private void checkType(TypeMirror type, Tree at) {
        TypeMirror inner = type;
        int dimensions = 0;
        while (inner.getKind() == TypeKind.ARRAY) {
            inner = ((ArrayType) inner).getComponentType();
            dimensions++;
        }
        boolean isNumber = inner.getKind().isPrimitive();
        boolean isKnown = isNumber || inner.getKind() == TypeKind.VOID || inner.toString().startsWith("Seatpower")
                || inner.toString().equals("java.lang.String") && dimensions == 0;
        check(!isKnown || dimensions > (isNumber ? 2 : 1), at, "3 the type " + type);
    }

    @Override
    public Void visitMethodInvocation(MethodInvocationTree tree, Void nothing) {
        Element called = elementOf(tree.getMethodSelect());
        String name = named((ExecutableElement) called);
        check(!isOwn(called) && !LIBRARY.contains(name), tree, "4 a call of " + name);
        if (isOwn(called)) {
            calls.computeIfAbsent(methodHere(), key -> new TreeSet<>()).add(name);
        }
        return super.visitMethodInvocation(tree, nothing);
    }

    @Override
    public Void visitNewClass(NewClassTree tree, Void nothing) {
        ExecutableElement made = (ExecutableElement) elementOf(tree);
        String type = made.getEnclosingElement().toString();
        boolean isThrown = getCurrentPath().getParentPath().getLeaf() instanceof ThrowTree;
        check(!isOwn(made) && !isThrown && !LIBRARY.contains(type + "." + "<init>" + made.toString()
                .replaceFirst("^[^(]*", "")), tree, "4 a new " + made);
        check(tree.getClassBody() != null, tree, "2 a class without a name");
        if (isOwn(made)) {
            calls.computeIfAbsent(methodHere(), key -> new TreeSet<>()).add(named(made));
        }
        return super.visitNewClass(tree, nothing);
    }

    @Override
    public Void visitThrow(ThrowTree tree, Void nothing) {
        boolean isWritten = tree.getExpression() instanceof NewClassTree made
                && THROWN.contains(made.getIdentifier().toString())
                && made.getArguments().stream().allMatch(text -> text instanceof LiteralTree);
        check(!isWritten, tree, "6 a throw");
        check(methodHere().endsWith("<init>"), tree, "6 a throw in a constructor");
        return super.visitThrow(tree, nothing);
    }

    @Override
    public Void visitTry(TryTree tree, Void nothing) {
        check(tree.getFinallyBlock() != null || !tree.getResources().isEmpty(), tree, "6 a finally or resources");
        return super.visitTry(tree, nothing);
    }

    @Override
    public Void visitCatch(CatchTree tree, Void nothing) {
        check(true, tree, "6 a catch: nothing that the program calls throws");
        return super.visitCatch(tree, nothing);
    }

    @Override
    public Void visitBinary(BinaryTree tree, Void nothing) {
        check(tree.getKind() == Tree.Kind.PLUS && isText(typeOf(tree)), tree, "10 texts joined by +");
        boolean isComparison = tree.getKind() == Tree.Kind.EQUAL_TO || tree.getKind() == Tree.Kind.NOT_EQUAL_TO;
        check(isComparison && isText(typeOf(tree.getLeftOperand())), tree, "6 texts compared by ==");
        return super.visitBinary(tree, nothing);
    }

    @Override
    public Void visitCompoundAssignment(CompoundAssignmentTree tree, Void nothing) {
        check(isText(typeOf(tree)), tree, "10 texts joined by +=");
        return super.visitCompoundAssignment(tree, nothing);
    }

    private static boolean isText(TypeMirror type) {
        return String.valueOf(type).equals("java.lang.String");
    }

    @Override
    public Void visitForLoop(ForLoopTree tree, Void nothing) {
        checkLoop(tree.getCondition(), tree);
        return super.visitForLoop(tree, nothing);
    }

    @Override
    public Void visitWhileLoop(WhileLoopTree tree, Void nothing) {
        checkLoop(tree.getCondition(), tree);
        return super.visitWhileLoop(tree, nothing);
    }

    @Override
    public Void visitDoWhileLoop(DoWhileLoopTree tree, Void nothing) {
        checkLoop(tree.getCondition(), tree);
        return super.visitDoWhileLoop(tree, nothing);
    }

    private void checkLoop(ExpressionTree condition, Tree at) {
        check(condition == null || condition.toString().matches("\\(?true\\)?"), at, "9 a loop without a bound");
    }

    @Override
    public Void visitLambdaExpression(LambdaExpressionTree tree, Void nothing) {
        check(true, tree, "2 a lambda");
        return super.visitLambdaExpression(tree, nothing);
    }

    @Override
    public Void visitMemberReference(MemberReferenceTree tree, Void nothing) {
        check(true, tree, "2 a method reference");
        return super.visitMemberReference(tree, nothing);
    }

    @Override
    public Void visitSynchronized(SynchronizedTree tree, Void nothing) {
        check(true, tree, "6 synchronized");
        return super.visitSynchronized(tree, nothing);
    }

    @Override
    public Void visitAssert(AssertTree tree, Void nothing) {
        check(true, tree, "6 an assert");
        return super.visitAssert(tree, nothing);
    }

    /** A method that calls itself counts once; of others none comes round to itself. */
    private void checkDepth() {
        Map<String, Integer> depths = new HashMap<>();
        for (String method : calls.keySet()) {
            int deep = depth(method, new HashSet<>(), depths);
            check(deep > MOST_DEEP, unit, "11 " + method + " goes " + deep + " deep");
        }
    }

    private int depth(String method, Set<String> open, Map<String, Integer> depths) {
        if (depths.containsKey(method)) {
            return depths.get(method);
        }
        check(!open.add(method), unit, "8 " + method + " comes round to itself");
        int deepest = 0;
        for (String called : calls.getOrDefault(method, Set.of())) {
            if (!called.equals(method) && !open.contains(called)) {
                deepest = Math.max(deepest, depth(called, open, depths));
            } else {
                check(!called.equals("Seatpower.Scales.place"), unit, "8 " + called + " comes round to itself");
            }
        }
        open.remove(method);
        depths.put(method, deepest + 1);
        return deepest + 1;
    }
}
