import com.sun.source.tree.AssertTree;
import com.sun.source.tree.BinaryTree;
import com.sun.source.tree.BlockTree;
import com.sun.source.tree.ClassTree;
import com.sun.source.tree.CompilationUnitTree;
import com.sun.source.tree.DoWhileLoopTree;
import com.sun.source.tree.ForLoopTree;
import com.sun.source.tree.ImportTree;
import com.sun.source.tree.LambdaExpressionTree;
import com.sun.source.tree.MemberReferenceTree;
import com.sun.source.tree.MethodInvocationTree;
import com.sun.source.tree.MethodTree;
import com.sun.source.tree.NewArrayTree;
import com.sun.source.tree.NewClassTree;
import com.sun.source.tree.SynchronizedTree;
import com.sun.source.tree.ThrowTree;
import com.sun.source.tree.Tree;
import com.sun.source.tree.TryTree;
import com.sun.source.tree.VariableTree;
import com.sun.source.tree.WhileLoopTree;
import com.sun.source.util.JavacTask;
import com.sun.source.util.TreePath;
import com.sun.source.util.TreePathScanner;
import com.sun.source.util.Trees;
import java.io.IOException;
import java.nio.file.Path;
import java.util.ArrayList;
import java.util.HashSet;
import java.util.List;
import java.util.Map;
import java.util.Set;
import java.util.TreeMap;
import java.util.TreeSet;
import javax.lang.model.element.Element;
import javax.lang.model.element.ElementKind;
import javax.lang.model.element.Modifier;
import javax.lang.model.type.TypeMirror;
import javax.tools.JavaCompiler;
import javax.tools.StandardJavaFileManager;
import javax.tools.ToolProvider;

/** Reads a source with the compiler and gathers what LANGUAGE.md rules out in it, by the rule's number. */
final class SourceRules extends TreePathScanner<Void, Void> {
    private static final Set<String> PLAIN = Set.of("int", "long", "short", "byte", "char", "boolean", "double", "float");
    private static final Set<String> LIBRARY_TYPES = Set.of("java.lang.String", "java.lang.StringBuilder");
    private static final Set<String> STATIC_TYPES = Set.of("int", "long", "boolean", "char", "java.lang.String",
        "int[]", "long[]", "char[]", "byte[]");
    private static final int MOST_PARAMETERS = 7;
    private static final int MOST_LINES = 60;
    private static final int MOST_DEPTH = 8;
    private static final int MOST_CLASSES = 12;
    private static final int MOST_FIELDS = 20;

    private final Trees trees;
    private final CompilationUnitTree unit;
    private final List<String> broken = new ArrayList<>();
    private final Map<String, Set<String>> calls = new TreeMap<>();
    private String within = "";
    private boolean isInConstructor = false;
    private int classes = 0;

    private SourceRules(Trees trees, CompilationUnitTree unit) {
        this.trees = trees;
        this.unit = unit;
    }

    /** Empty, if the source keeps to those rules that can be seen so. */
    static List<String> brokenIn(Path source) throws IOException {
        JavaCompiler compiler = ToolProvider.getSystemJavaCompiler();
        try (StandardJavaFileManager files = compiler.getStandardFileManager(null, null, null)) {
            JavacTask task = (JavacTask) compiler.getTask(null, files, null, List.of("--release", "17", "-proc:none"),
                null, files.getJavaFileObjects(source));
            CompilationUnitTree unit = task.parse().iterator().next();
            task.analyze();
            SourceRules rules = new SourceRules(Trees.instance(task), unit);
            rules.scan(unit, null);
            rules.judgeWhole();
            return rules.broken;
        }
    }

    private void judgeWhole() {
        if (unit.getPackage() != null) {
            broken.add("a package line");
        }
        if (classes > MOST_CLASSES) {
            broken.add("11: " + classes + " classes");
        }
        for (String method : calls.keySet()) {
            int depth = depthFrom(method, new HashSet<>());
            if (depth > MOST_DEPTH) {
                broken.add("11: " + depth + " calls deep from " + method);
            }
        }
    }

    /** Recursion (rule 8) may be fine, but there is none so far, and one that comes is to be looked at. */
    private int depthFrom(String method, Set<String> open) {
        if (!open.add(method)) {
            broken.add("8: recursion through " + method);
            return 0;
        }
        int deepest = 0;
        for (String called : calls.getOrDefault(method, Set.of())) {
            deepest = Math.max(deepest, depthFrom(called, open));
        }
        open.remove(method);
        return deepest + 1;
    }

    private void breaks(String rule, Tree tree) {
        long start = trees.getSourcePositions().getStartPosition(unit, tree);
        broken.add(rule + ", line " + unit.getLineMap().getLineNumber(start));
    }

    private Element element() {
        return trees.getElement(getCurrentPath());
    }

    private boolean isOwn(TypeMirror type) {
        return type.toString().startsWith("DripEars");
    }

    private boolean isAllowed(TypeMirror type) {
        String name = type.toString();
        String single = name.endsWith("[]") ? name.substring(0, name.length() - 2) : name;
        boolean isRowOfRows = single.endsWith("[]");
        if (isRowOfRows) {
            return PLAIN.contains(single.substring(0, single.length() - 2));
        }
        return PLAIN.contains(single) || isOwn(type) || LIBRARY_TYPES.contains(name);
    }

    @Override
    public Void visitClass(ClassTree tree, Void nothing) {
        classes++;
        Element type = element();
        boolean isNested = type.getEnclosingElement().getKind() == ElementKind.CLASS;
        if (isNested && !type.getModifiers().contains(Modifier.STATIC) || type.getSimpleName().length() == 0) {
            breaks("2: a class that is not static", tree);
        }
        int fields = 0;
        for (Element member : type.getEnclosedElements()) {
            boolean isStatic = member.getModifiers().contains(Modifier.STATIC);
            fields += member.getKind() == ElementKind.FIELD && !isStatic ? 1 : 0;
        }
        if (fields > MOST_FIELDS) {
            breaks("11: " + fields + " fields", tree);
        }
        return super.visitClass(tree, nothing);
    }

    @Override
    public Void visitBlock(BlockTree tree, Void nothing) {
        if (tree.isStatic()) {
            breaks("5: a static initialiser", tree);
        }
        return super.visitBlock(tree, nothing);
    }

    @Override
    public Void visitMethod(MethodTree tree, Void nothing) {
        String before = within;
        within = nameOf(element());
        isInConstructor = element().getKind() == ElementKind.CONSTRUCTOR;
        calls.putIfAbsent(within, new TreeSet<>());
        if (tree.getParameters().size() > MOST_PARAMETERS) {
            breaks("11: more than seven parameters", tree);
        }
        long start = unit.getLineMap().getLineNumber(Math.max(0, trees.getSourcePositions().getStartPosition(unit, tree)));
        long end = unit.getLineMap().getLineNumber(Math.max(0, trees.getSourcePositions().getEndPosition(unit, tree)));
        if (end - start >= MOST_LINES) {
            breaks("11: more than sixty lines", tree);
        }
        if (Set.of("equals", "hashCode", "toString", "finalize").contains(tree.getName().toString())) {
            breaks("6: " + tree.getName(), tree);
        }
        super.visitMethod(tree, nothing);
        within = before;
        return null;
    }

    private static String nameOf(Element method) {
        return method.getEnclosingElement() + "." + method;
    }

    @Override
    public Void visitVariable(VariableTree tree, Void nothing) {
        Element variable = element();
        if (!isAllowed(variable.asType())) {
            breaks("3: a type " + variable.asType(), tree);
        }
        boolean isField = variable.getKind() == ElementKind.FIELD;
        if (isField && variable.getModifiers().contains(Modifier.STATIC)) {
            judgeStatic(tree, variable);
        }
        return super.visitVariable(tree, nothing);
    }

    private void judgeStatic(VariableTree tree, Element field) {
        if (!field.getModifiers().contains(Modifier.FINAL) || !STATIC_TYPES.contains(field.asType().toString())) {
            breaks("5: static state " + tree.getName(), tree);
        }
        boolean isWrittenOut = tree.getInitializer() != null && tree.getInitializer().getKind() != Tree.Kind.METHOD_INVOCATION;
        if (!isWrittenOut) {
            breaks("5: not written out, " + tree.getName(), tree);
        }
    }

    @Override
    public Void visitMethodInvocation(MethodInvocationTree tree, Void nothing) {
        Element called = element();
        String owner = called.getEnclosingElement().toString();
        String name = called.getSimpleName().toString();
        boolean isSuper = name.equals("<init>") && owner.equals("java.lang.Object");
        if (isOwn(called.getEnclosingElement().asType())) {
            noteCall(called);
        } else if (!isSuper && !isOfLibrary(owner, name)) {
            breaks("4: " + owner + "." + name, tree);
        }
        return super.visitMethodInvocation(tree, nothing);
    }

    private void noteCall(Element called) {
        calls.computeIfAbsent(within, method -> new TreeSet<>()).add(nameOf(called));
    }

    /** The room is shared by all calls of a run, so all that is made is made with the object. */
    private boolean isBehindMaking() {
        return !within.isEmpty() && !isInConstructor;
    }

    private static boolean isOfLibrary(String owner, String name) {
        if (owner.equals("java.lang.Math") || owner.equals("java.lang.Integer") || owner.equals("java.lang.Long")) {
            return !name.endsWith("Exact") && !name.equals("random") && !name.startsWith("get") && !name.startsWith("parse");
        }
        return owner.equals("java.lang.System") && name.equals("arraycopy");
    }

    @Override
    public Void visitNewClass(NewClassTree tree, Void nothing) {
        Element constructor = element();
        if (tree.getClassBody() != null) {
            breaks("2: an anonymous class", tree);
        }
        if (!isOwn(constructor.getEnclosingElement().asType())) {
            breaks("4: new " + constructor.getEnclosingElement(), tree);
        } else {
            noteCall(constructor);
            if (isBehindMaking()) {
                breaks("12: made behind the constructor", tree);
            }
        }
        return super.visitNewClass(tree, nothing);
    }

    @Override
    public Void visitNewArray(NewArrayTree tree, Void nothing) {
        if (isBehindMaking()) {
            breaks("12: a row made behind the constructor", tree);
        }
        return super.visitNewArray(tree, nothing);
    }

    @Override
    public Void visitBinary(BinaryTree tree, Void nothing) {
        TypeMirror left = trees.getTypeMirror(new TreePath(getCurrentPath(), tree.getLeftOperand()));
        TypeMirror right = trees.getTypeMirror(new TreePath(getCurrentPath(), tree.getRightOperand()));
        boolean isText = left.toString().equals("java.lang.String") || right.toString().equals("java.lang.String");
        if (isText) {
            breaks("6 or 10: " + tree.getKind() + " of texts", tree);
        }
        return super.visitBinary(tree, nothing);
    }

    @Override
    public Void visitForLoop(ForLoopTree tree, Void nothing) {
        if (tree.getInitializer().isEmpty() || tree.getCondition() == null || tree.getUpdate().isEmpty()) {
            breaks("9: a loop without a counter and a bound", tree);
        }
        return super.visitForLoop(tree, nothing);
    }

    @Override
    public Void visitWhileLoop(WhileLoopTree tree, Void nothing) {
        breaks("9: a loop without a counter", tree);
        return super.visitWhileLoop(tree, nothing);
    }

    @Override
    public Void visitDoWhileLoop(DoWhileLoopTree tree, Void nothing) {
        breaks("9: a loop without a counter", tree);
        return super.visitDoWhileLoop(tree, nothing);
    }

    @Override
    public Void visitThrow(ThrowTree tree, Void nothing) {
        breaks("6: throw", tree);
        return super.visitThrow(tree, nothing);
    }

    @Override
    public Void visitTry(TryTree tree, Void nothing) {
        breaks("6: try", tree);
        return super.visitTry(tree, nothing);
    }

    @Override
    public Void visitSynchronized(SynchronizedTree tree, Void nothing) {
        breaks("6: synchronized", tree);
        return super.visitSynchronized(tree, nothing);
    }

    @Override
    public Void visitAssert(AssertTree tree, Void nothing) {
        breaks("6: assert", tree);
        return super.visitAssert(tree, nothing);
    }

    @Override
    public Void visitLambdaExpression(LambdaExpressionTree tree, Void nothing) {
        breaks("2: a lambda", tree);
        return super.visitLambdaExpression(tree, nothing);
    }

    @Override
    public Void visitMemberReference(MemberReferenceTree tree, Void nothing) {
        breaks("2: a method reference", tree);
        return super.visitMemberReference(tree, nothing);
    }

    @Override
    public Void visitImport(ImportTree tree, Void nothing) {
        breaks("4: " + tree.toString().trim(), tree);
        return super.visitImport(tree, nothing);
    }
}
