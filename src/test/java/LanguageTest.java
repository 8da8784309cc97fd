import com.sun.source.tree.AssertTree;
import com.sun.source.tree.BinaryTree;
import com.sun.source.tree.ClassTree;
import com.sun.source.tree.CompilationUnitTree;
import com.sun.source.tree.EnhancedForLoopTree;
import com.sun.source.tree.ImportTree;
import com.sun.source.tree.InstanceOfTree;
import com.sun.source.tree.LambdaExpressionTree;
import com.sun.source.tree.MemberReferenceTree;
import com.sun.source.tree.MethodInvocationTree;
import com.sun.source.tree.MethodTree;
import com.sun.source.tree.NewArrayTree;
import com.sun.source.tree.NewClassTree;
import com.sun.source.tree.SynchronizedTree;
import com.sun.source.tree.ThrowTree;
import com.sun.source.tree.Tree;
import com.sun.source.tree.TryTree;
import com.sun.source.tree.TypeCastTree;
import com.sun.source.tree.VariableTree;
import com.sun.source.tree.WhileLoopTree;
import com.sun.source.util.JavacTask;
import com.sun.source.util.TreePath;
import com.sun.source.util.TreePathScanner;
import com.sun.source.util.Trees;
import java.io.File;
import java.util.ArrayList;
import java.util.LinkedHashMap;
import java.util.LinkedHashSet;
import java.util.List;
import java.util.Map;
import java.util.Set;
import java.util.TreeSet;
import javax.lang.model.element.Element;
import javax.lang.model.element.ElementKind;
import javax.lang.model.element.Modifier;
import javax.tools.JavaCompiler;
import javax.tools.StandardJavaFileManager;
import javax.tools.ToolProvider;

/** The rules of ../shared/LANGUAGE.md that can be read off the class's source, by their numbers; FaceTest has rule 1. */
public final class LanguageTest extends TreePathScanner<Void, Void> {
    private static final String SOURCE = "src/main/java/OnlyUnseen.java";
    private static final int PARAMETERS_MOST = 7;
    private static final int LINES_MOST = 60;
    private static final int DEPTH_MOST = 8;
    private static final int CLASSES_MOST = 12;
    private static final int FIELDS_MOST = 20;
    private static final Set<String> TYPES = Set.of("int", "long", "boolean", "String", "int[]", "long[]", "int[][]", "long[][]");
    private static final Set<String> CONSTANTS = Set.of("int", "long", "boolean", "char", "String");
    private static final Set<String> LIBRARY = Set.of("System.arraycopy", "Integer.bitCount", "String.length", "String.charAt");

    private final Check check;
    private final CompilationUnitTree unit;
    private final Trees trees;
    private final Set<String> classes = new TreeSet<>();
    private final Map<Element, Set<Element>> calls = new LinkedHashMap<>();
    private Element within = null;

    private LanguageTest(Check check, CompilationUnitTree unit, Trees trees) {
        this.check = check;
        this.unit = unit;
        this.trees = trees;
    }

    private long lineOf(long place) {
        return unit.getLineMap().getLineNumber(place);
    }

    private void breaks(int rule, Tree tree, String what) {
        check.fail("line " + lineOf(trees.getSourcePositions().getStartPosition(unit, tree)) + ", rule " + rule + ": " + what);
    }

    private Element elementOf(Tree tree) {
        return trees.getElement(new TreePath(getCurrentPath(), tree));
    }

    private static String nameOf(Element called) {
        return called.getEnclosingElement().getSimpleName() + "." + called.getSimpleName();
    }

    @Override
    public Void visitImport(ImportTree tree, Void none) {
        breaks(4, tree, "imports " + tree.getQualifiedIdentifier());
        return super.visitImport(tree, none);
    }

    @Override
    public Void visitClass(ClassTree tree, Void none) {
        classes.add(tree.getSimpleName().toString());
        if (within != null) {
            breaks(2, tree, "a class in a method");
        }
        int fields = 0;
        for (Tree member : tree.getMembers()) {
            if (member.getKind() == Tree.Kind.BLOCK) {
                breaks(5, member, "an initialiser block");
            }
            if (member instanceof VariableTree) {
                fields += isStatic((VariableTree) member) ? 0 : 1;
            }
        }
        check.due("fields of " + tree.getSimpleName() + " beyond " + FIELDS_MOST, Math.max(0, fields - FIELDS_MOST), 0);
        return super.visitClass(tree, none);
    }

    private static boolean isStatic(VariableTree field) {
        return field.getModifiers().getFlags().contains(Modifier.STATIC);
    }

    @Override
    public Void visitMethod(MethodTree tree, Void none) {
        within = trees.getElement(getCurrentPath());
        calls.put(within, calls.getOrDefault(within, new LinkedHashSet<>()));
        long first = trees.getSourcePositions().getStartPosition(unit, tree);
        long last = trees.getSourcePositions().getEndPosition(unit, tree);
        if (first >= 0 && last >= 0 && lineOf(last) - lineOf(first) >= LINES_MOST) {
            breaks(11, tree, "a method of more than " + LINES_MOST + " lines");
        }
        if (tree.getParameters().size() > PARAMETERS_MOST) {
            breaks(11, tree, "more than " + PARAMETERS_MOST + " parameters");
        }
        super.visitMethod(tree, none);
        within = null;
        return null;
    }

    @Override
    public Void visitVariable(VariableTree tree, Void none) {
        String type = String.valueOf(tree.getType());
        if (!TYPES.contains(type) && !classes.contains(type)) {
            breaks(3, tree, "of type " + type);
        }
        if (isStatic(tree) && (!tree.getModifiers().getFlags().contains(Modifier.FINAL) || !CONSTANTS.contains(type))) {
            breaks(5, tree, tree.getName() + " is static, and no constant");
        }
        return super.visitVariable(tree, none);
    }

    @Override
    public Void visitMethodInvocation(MethodInvocationTree tree, Void none) {
        Element called = elementOf(tree.getMethodSelect());
        if (called.getKind() != ElementKind.CONSTRUCTOR) {
            if (classes.contains(called.getEnclosingElement().getSimpleName().toString())) {
                if (within != null) {
                    calls.get(within).add(called);
                }
            } else if (!LIBRARY.contains(nameOf(called))) {
                breaks(4, tree, "calls " + nameOf(called));
            }
        }
        return super.visitMethodInvocation(tree, none);
    }

    @Override
    public Void visitNewClass(NewClassTree tree, Void none) {
        if (tree.getClassBody() != null) {
            breaks(2, tree, "an anonymous class");
        }
        if (!classes.contains(tree.getIdentifier().toString())) {
            breaks(4, tree, "makes a " + tree.getIdentifier());
        }
        makes(tree);
        return super.visitNewClass(tree, none);
    }

    @Override
    public Void visitNewArray(NewArrayTree tree, Void none) {
        makes(tree);
        return super.visitNewArray(tree, none);
    }

    // the rule allows some; here all is made with the object, so that 512 calls need no more room than none
    private void makes(Tree tree) {
        if (within != null && within.getKind() != ElementKind.CONSTRUCTOR) {
            breaks(12, tree, "a call makes an object or an array");
        }
    }

    @Override
    public Void visitBinary(BinaryTree tree, Void none) {
        for (Tree side : List.of(tree.getLeftOperand(), tree.getRightOperand())) {
            String type = String.valueOf(trees.getTypeMirror(new TreePath(getCurrentPath(), side)));
            if (type.endsWith("String")) {
                breaks(tree.getKind() == Tree.Kind.PLUS ? 10 : 6, tree, "a text beside " + tree.getKind());
            }
        }
        return super.visitBinary(tree, none);
    }

    @Override
    public Void visitTypeCast(TypeCastTree tree, Void none) {
        if (!TYPES.contains(tree.getType().toString()) && !Set.of("byte", "short").contains(tree.getType().toString())) {
            breaks(6, tree, "a cast to " + tree.getType());
        }
        return super.visitTypeCast(tree, none);
    }

    @Override
    public Void visitWhileLoop(WhileLoopTree tree, Void none) {
        // a while's end stands in a bound on what it counts up
        if (!tree.getCondition().toString().contains(" < ")) {
            breaks(9, tree, "a while without a bound");
        }
        return super.visitWhileLoop(tree, none);
    }

    @Override
    public Void visitEnhancedForLoop(EnhancedForLoopTree tree, Void none) {
        if (!String.valueOf(trees.getTypeMirror(new TreePath(getCurrentPath(), tree.getExpression()))).endsWith("[]")) {
            breaks(12, tree, "a for that makes an iterator");
        }
        return super.visitEnhancedForLoop(tree, none);
    }

    @Override
    public Void visitThrow(ThrowTree tree, Void none) {
        breaks(6, tree, "throw");
        return super.visitThrow(tree, none);
    }

    @Override
    public Void visitTry(TryTree tree, Void none) {
        breaks(6, tree, "try");
        return super.visitTry(tree, none);
    }

    @Override
    public Void visitSynchronized(SynchronizedTree tree, Void none) {
        breaks(6, tree, "synchronized");
        return super.visitSynchronized(tree, none);
    }

    @Override
    public Void visitAssert(AssertTree tree, Void none) {
        breaks(6, tree, "assert");
        return super.visitAssert(tree, none);
    }

    @Override
    public Void visitInstanceOf(InstanceOfTree tree, Void none) {
        breaks(6, tree, "instanceof, which the class has had no need of");
        return super.visitInstanceOf(tree, none);
    }

    @Override
    public Void visitLambdaExpression(LambdaExpressionTree tree, Void none) {
        breaks(2, tree, "a lambda");
        return super.visitLambdaExpression(tree, none);
    }

    @Override
    public Void visitMemberReference(MemberReferenceTree tree, Void none) {
        breaks(2, tree, "a method reference");
        return super.visitMemberReference(tree, none);
    }

    /** Rules 8 and 11: how deep the calls go; only a private static method may call itself, and none in a ring. */
    private int depthOf(Element method, List<Element> open) {
        int deepest = 0;
        open.add(method);
        for (Element called : calls.getOrDefault(method, Set.of())) {
            boolean isItself = called.equals(method);
            if (isItself && !called.getModifiers().containsAll(Set.of(Modifier.PRIVATE, Modifier.STATIC))) {
                check.fail("rule 8: " + nameOf(method) + " calls itself");
            } else if (!isItself && open.contains(called)) {
                check.fail("rule 8: " + nameOf(method) + " calls " + nameOf(called) + " in a ring");
            } else if (!isItself) {
                deepest = Math.max(deepest, depthOf(called, open));
            }
        }
        open.remove(method);
        return 1 + deepest;
    }

    private void weighDepths() {
        for (Element method : calls.keySet()) {
            int depth = depthOf(method, new ArrayList<>());
            check.due("rule 11: calls too deep from " + nameOf(method), Math.max(0, depth - DEPTH_MOST), 0);
        }
    }

    public static void main(String[] args) throws Exception {
        Check check = new Check();
        String source = args.length > 0 ? args[0] : SOURCE;
        JavaCompiler compiler = ToolProvider.getSystemJavaCompiler();
        try (StandardJavaFileManager files = compiler.getStandardFileManager(null, null, null)) {
            JavacTask task = (JavacTask) compiler.getTask(null, files, null, List.of("-proc:none"), null,
                files.getJavaFileObjects(new File(source)));
            CompilationUnitTree unit = task.parse().iterator().next();
            task.analyze();
            LanguageTest test = new LanguageTest(check, unit, Trees.instance(task));
            for (Tree outer : unit.getTypeDecls()) {
                ((ClassTree) outer).getMembers().stream().filter(m -> m instanceof ClassTree)
                    .forEach(m -> test.classes.add(((ClassTree) m).getSimpleName().toString()));
            }
            check.due("classes of the file", unit.getTypeDecls().size(), 1);
            test.scan(unit, null);
            test.weighDepths();
            check.due("rule 11: classes beyond " + CLASSES_MOST, Math.max(0, test.classes.size() - CLASSES_MOST), 0);
        }
        check.end("LanguageTest");
    }
}
