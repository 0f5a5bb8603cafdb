import com.sun.source.tree.AssertTree;
import com.sun.source.tree.ClassTree;
import com.sun.source.tree.CompilationUnitTree;
import com.sun.source.tree.LambdaExpressionTree;
import com.sun.source.tree.MemberReferenceTree;
import com.sun.source.tree.MethodInvocationTree;
import com.sun.source.tree.MethodTree;
import com.sun.source.tree.NewArrayTree;
import com.sun.source.tree.NewClassTree;
import com.sun.source.tree.SynchronizedTree;
import com.sun.source.tree.ThrowTree;
import com.sun.source.tree.Tree;
import com.sun.source.tree.TryTree;
import com.sun.source.tree.VariableTree;
import com.sun.source.util.JavacTask;
import com.sun.source.util.TreePathScanner;
import com.sun.source.util.Trees;
import java.nio.file.Path;
import java.util.List;
import java.util.Map;
import java.util.Set;
import java.util.TreeMap;
import java.util.TreeSet;
import javax.lang.model.element.Element;
import javax.lang.model.element.Modifier;
import javax.tools.JavaCompiler;
import javax.tools.StandardJavaFileManager;
import javax.tools.ToolProvider;

/** What LANGUAGE.md says of how the source is built, by the tree that the compiler makes of it. */
public final class ShapeOfTheSource extends TreePathScanner<Void, Void> {
    private static final int MOST_LINES = 60;
    private static final int MOST_PARAMETERS = 7;
    private static final int MOST_DEEP = 8;
    private static final Set<String> LIBRARY = Set.of("Math.min", "Math.max", "Math.abs", "Integer.bitCount",
            "System.arraycopy");
    private static final Set<String> CONSTANTS = Set.of("int", "long", "boolean", "char", "String", "int[]", "long[]",
            "char[]", "byte[]");

    private final Trees trees;
    private final CompilationUnitTree unit;
    private final Map<String, Set<String>> calls = new TreeMap<>();
    private String method = "";

    private ShapeOfTheSource(Trees trees, CompilationUnitTree unit) {
        this.trees = trees;
        this.unit = unit;
    }

    public static void main(String[] args) throws Exception {
        JavaCompiler compiler = ToolProvider.getSystemJavaCompiler();
        try (StandardJavaFileManager files = compiler.getStandardFileManager(null, null, null)) {
            var source = files.getJavaFileObjects(Path.of("src/main/java/FishReaders.java"));
            JavacTask task = (JavacTask) compiler.getTask(null, files, null, List.of(), null, source);
            CompilationUnitTree unit = task.parse().iterator().next();
            task.analyze();
            ShapeOfTheSource shape = new ShapeOfTheSource(Trees.instance(task), unit);
            shape.scan(unit, null);
            shape.noCallGoesTooDeep();
        }
        Due.end();
    }

    private void isNot(String what, Tree tree) {
        Due.due("line " + line(tree) + ": " + what, 1, 0);
    }

    private long line(Tree tree) {
        return unit.getLineMap().getLineNumber(trees.getSourcePositions().getStartPosition(unit, tree));
    }

    private long lastLine(Tree tree) {
        return unit.getLineMap().getLineNumber(trees.getSourcePositions().getEndPosition(unit, tree));
    }

    private String nameOf(Element member) {
        return member.getEnclosingElement().getSimpleName() + "." + member.getSimpleName();
    }

    @Override
    public Void visitClass(ClassTree node, Void none) {
        boolean inside = getCurrentPath().getParentPath().getLeaf() instanceof ClassTree;
        if (inside && !node.getModifiers().getFlags().contains(Modifier.STATIC)) {
            isNot("a class that is not static", node);
        }
        if (!method.isEmpty() && !inside) {
            isNot("a class within a method", node);
        }
        for (Tree member : node.getMembers()) {
            if (member.getKind() == Tree.Kind.BLOCK) {
                isNot("a block of its own", member);
            }
        }
        return super.visitClass(node, none);
    }

    @Override
    public Void visitMethod(MethodTree node, Void none) {
        method = nameOf(trees.getElement(getCurrentPath()));
        if (node.getParameters().size() > MOST_PARAMETERS) {
            isNot(method + " takes too many parameters", node);
        }
        if (lastLine(node) - line(node) >= MOST_LINES) {
            isNot(method + " is too long", node);
        }
        calls.putIfAbsent(method, new TreeSet<>());
        super.visitMethod(node, none);
        method = "";
        return null;
    }

    @Override
    public Void visitVariable(VariableTree node, Void none) {
        Set<Modifier> flags = node.getModifiers().getFlags();
        if (flags.contains(Modifier.STATIC)) {
            boolean constant = flags.contains(Modifier.FINAL) && CONSTANTS.contains(node.getType().toString());
            if (!constant || node.getInitializer() == null) {
                isNot(node.getName() + " is static, and no constant", node);
            }
        }
        return super.visitVariable(node, none);
    }

    @Override
    public Void visitMethodInvocation(MethodInvocationTree node, Void none) {
        Element called = trees.getElement(getCurrentPath());
        String name = nameOf(called);
        boolean ownOne = called.getEnclosingElement().toString().startsWith("FishReaders");
        if (ownOne) {
            calls.get(method).add(name);
        } else if (!LIBRARY.contains(name) && !name.equals("Object.<init>")) {
            isNot("a call of " + name, node);
        }
        return super.visitMethodInvocation(node, none);
    }

    /** All calls of a run share one room: so what is made is made with the object itself. */
    @Override
    public Void visitNewClass(NewClassTree node, Void none) {
        if (node.getClassBody() != null) {
            isNot("a class without a name", node);
        }
        isMadeByAConstructor(node);
        return super.visitNewClass(node, none);
    }

    @Override
    public Void visitNewArray(NewArrayTree node, Void none) {
        isMadeByAConstructor(node);
        return super.visitNewArray(node, none);
    }

    private void isMadeByAConstructor(Tree node) {
        if (!method.isEmpty() && !method.endsWith(".<init>")) {
            isNot(method + " makes something", node);
        }
    }

    @Override
    public Void visitLambdaExpression(LambdaExpressionTree node, Void none) {
        isNot("a lambda", node);
        return super.visitLambdaExpression(node, none);
    }

    @Override
    public Void visitMemberReference(MemberReferenceTree node, Void none) {
        isNot("a method reference", node);
        return super.visitMemberReference(node, none);
    }

    @Override
    public Void visitThrow(ThrowTree node, Void none) {
        isNot("a throw", node);
        return super.visitThrow(node, none);
    }

    @Override
    public Void visitTry(TryTree node, Void none) {
        isNot("a try", node);
        return super.visitTry(node, none);
    }

    @Override
    public Void visitAssert(AssertTree node, Void none) {
        isNot("an assert", node);
        return super.visitAssert(node, none);
    }

    @Override
    public Void visitSynchronized(SynchronizedTree node, Void none) {
        isNot("a synchronized", node);
        return super.visitSynchronized(node, none);
    }

    /** No method calls itself here, so how deep calls go is the longest way through all of them. */
    private void noCallGoesTooDeep() {
        Map<String, Integer> deep = new TreeMap<>();
        for (String name : calls.keySet()) {
            int goes = deepest(name, deep, new TreeSet<>());
            Due.due(name + " goes " + goes + " calls deep", goes > MOST_DEEP ? 1 : 0, 0);
        }
        Due.due("methods were found", calls.size() > 60 ? 1 : 0, 1);
    }

    private int deepest(String name, Map<String, Integer> deep, Set<String> open) {
        if (deep.containsKey(name)) {
            return deep.get(name);
        }
        if (!open.add(name)) {
            Due.due(name + " calls itself", 1, 0);
            return 0;
        }
        int below = 0;
        for (String called : calls.getOrDefault(name, Set.of())) {
            below = Math.max(below, deepest(called, deep, open));
        }
        open.remove(name);
        deep.put(name, below + 1);
        return below + 1;
    }
}
