import com.sun.source.tree.AssertTree;
import com.sun.source.tree.ClassTree;
import com.sun.source.tree.CompilationUnitTree;
import com.sun.source.tree.DoWhileLoopTree;
import com.sun.source.tree.EnhancedForLoopTree;
import com.sun.source.tree.ForLoopTree;
import com.sun.source.tree.LambdaExpressionTree;
import com.sun.source.tree.MemberReferenceTree;
import com.sun.source.tree.MethodInvocationTree;
import com.sun.source.tree.MethodTree;
import com.sun.source.tree.NewArrayTree;
import com.sun.source.tree.NewClassTree;
import com.sun.source.tree.SynchronizedTree;
import com.sun.source.tree.ThrowTree;
import com.sun.source.tree.Tree;
import com.sun.source.tree.TryTree;
import com.sun.source.tree.TypeCastTree;
import com.sun.source.tree.VariableTree;
import com.sun.source.tree.WhileLoopTree;
import com.sun.source.util.JavacTask;
import com.sun.source.util.TreePath;
import com.sun.source.util.TreePathScanner;
import com.sun.source.util.Trees;
import java.io.IOException;
import java.nio.file.Path;
import java.util.HashSet;
import java.util.List;
import java.util.Map;
import java.util.Set;
import java.util.TreeMap;
import java.util.TreeSet;
import javax.lang.model.element.Element;
import javax.lang.model.element.Modifier;
import javax.tools.StandardJavaFileManager;
import javax.tools.ToolProvider;

/** The rules of LANGUAGE.md that the compiler can tell of: types, the library, recursion, and all that is numbered. */
public final class FormTest extends TreePathScanner<Void, Void> {
    private static final Path FILE = Path.of("src/main/java/HammockReach.java");
    private static final int MOST_CLASSES = 12, MOST_FIELDS = 20, MOST_PARAMETERS = 7, MOST_LINES = 60, DEEPEST = 8;
    private static final Set<String> TYPES = Set.of("int", "long", "short", "byte", "char", "boolean", "double", "float",
        "void", "java.lang.String", "java.lang.StringBuilder", "java.lang.Integer", "none");
    private static final Set<String> LIBRARY = Set.of("java.lang.Math.abs(int)", "java.lang.Integer.bitCount(int)",
        "java.lang.System.arraycopy(java.lang.Object,int,java.lang.Object,int,int)", "java.lang.Object.Object()");
    /** Those that call one another carry their depth. */
    private static final Set<String> RECURSIVE = Set.of("HammockReach.answer(int,int,int)", "HammockReach.body(int,int,int)");
    private static final Expect e = new Expect();

    private final Trees trees;
    private final CompilationUnitTree unit;
    private final Map<String, Set<String>> calls = new TreeMap<>();
    private String method = "";
    private int classes;

    private FormTest(Trees trees, CompilationUnitTree unit) {
        this.trees = trees;
        this.unit = unit;
    }

    public static void main(String[] args) throws IOException {
        try (StandardJavaFileManager files = ToolProvider.getSystemJavaCompiler().getStandardFileManager(null, null, null)) {
            JavacTask task = (JavacTask) ToolProvider.getSystemJavaCompiler().getTask(
                null, files, null, List.of("-proc:none"), null, files.getJavaFileObjects(FILE));
            CompilationUnitTree unit = task.parse().iterator().next();
            task.analyze();
            FormTest form = new FormTest(Trees.instance(task), unit);
            form.scan(unit, null);
            form.endsAllCalls();
        }
        e.end();
    }

    private void none(String what, Tree tree) {
        e.is(what + " in line " + unit.getLineMap().getLineNumber(trees.getSourcePositions().getStartPosition(unit, tree)), 1, 0);
    }

    private void most(String what, int is, int most) {
        e.is(what + ": " + is + ", at most " + most, is > most ? 1 : 0, 0);
    }

    /** Each method, by itself and those that it calls, ends: it is no recursion but the two told, and not too deep. */
    private void endsAllCalls() {
        most("classes", classes, MOST_CLASSES);
        for (String name : calls.keySet()) {
            Set<String> reached = new HashSet<>();
            reachFrom(name, reached);
            e.is(name + " calls itself", reached.contains(name) ? 1 : 0, RECURSIVE.contains(name) ? 1 : 0);
            most("calls from " + name, depth(name, new HashSet<>()), DEEPEST);
        }
        e.is("recursive ones", RECURSIVE.stream().filter(calls::containsKey).count() == RECURSIVE.size() ? 1 : 0, 1);
    }

    private void reachFrom(String name, Set<String> reached) {
        for (String next : calls.getOrDefault(name, Set.of())) {
            if (reached.add(next)) {
                reachFrom(next, reached);
            }
        }
    }

    private int depth(String name, Set<String> open) {
        int deepest = 0;
        open.add(name);
        for (String next : calls.getOrDefault(name, Set.of())) {
            if (!open.contains(next)) {
                deepest = Math.max(deepest, depth(next, open));
            }
        }
        open.remove(name);
        return deepest + 1;
    }

    @Override
    public Void visitClass(ClassTree tree, Void p) {
        classes++;
        String name = "class " + tree.getSimpleName();
        int fields = 0;
        for (Tree member : tree.getMembers()) {
            if (member instanceof VariableTree field) {
                boolean constant = field.getModifiers().getFlags().contains(Modifier.STATIC);
                fields += constant ? 0 : 1;
                e.is(name + "." + field.getName() + " is static and not final",
                    constant && !field.getModifiers().getFlags().contains(Modifier.FINAL) ? 1 : 0, 0);
            }
        }
        most("fields of " + name, fields, MOST_FIELDS);
        if (getCurrentPath().getParentPath().getLeaf() instanceof ClassTree) {
            e.is(name + " is static", tree.getModifiers().getFlags().contains(Modifier.STATIC) ? 1 : 0, 1);
        } else {
            e.is(name + " is the one of the file", tree.getSimpleName().contentEquals("HammockReach") ? 1 : 0, 1);
        }
        return super.visitClass(tree, p);
    }

    @Override
    public Void visitMethod(MethodTree tree, Void p) {
        Element element = trees.getElement(getCurrentPath());
        method = element.getEnclosingElement() + "." + element;
        calls.computeIfAbsent(method, k -> new TreeSet<>());
        most("parameters of " + method, tree.getParameters().size(), MOST_PARAMETERS);
        long first = unit.getLineMap().getLineNumber(trees.getSourcePositions().getStartPosition(unit, tree));
        long last = unit.getLineMap().getLineNumber(Math.max(trees.getSourcePositions().getEndPosition(unit, tree), 1));
        most("lines of " + method, (int) (last - first + 1), MOST_LINES);
        Void answer = super.visitMethod(tree, p);
        method = "";
        return answer;
    }

    @Override
    public Void visitMethodInvocation(MethodInvocationTree tree, Void p) {
        Element element = trees.getElement(getCurrentPath());
        String name = element.getEnclosingElement() + "." + element.getSimpleName() + element.toString().replaceAll("^[^(]*", "");
        if (name.startsWith("HammockReach")) {
            calls.computeIfAbsent(method, k -> new TreeSet<>()).add(name);
        } else if (!name.endsWith(".<init>()")) {
            e.is("the library: " + name, LIBRARY.contains(name) ? 1 : 0, 1);
        }
        return super.visitMethodInvocation(tree, p);
    }

    @Override
    public Void visitVariable(VariableTree tree, Void p) {
        String type = trees.getTypeMirror(new TreePath(getCurrentPath(), tree.getType())).toString();
        String element = type.replace("[]", "");
        int dimensions = (type.length() - element.length()) / 2;
        boolean ours = element.startsWith("HammockReach");
        e.is("type " + type + " of " + tree.getName(), ours || TYPES.contains(element) ? 1 : 0, 1);
        most("dimensions of " + tree.getName(), dimensions, ours ? 1 : 2);
        return super.visitVariable(tree, p);
    }

    @Override
    public Void visitNewClass(NewClassTree tree, Void p) {
        if (tree.getClassBody() != null) {
            none("anonymous class", tree);
        }
        return super.visitNewClass(tree, p);
    }

    @Override
    public Void visitNewArray(NewArrayTree tree, Void p) {
        if (!method.isEmpty()) {
            none("an array made in a method", tree);
        }
        return super.visitNewArray(tree, p);
    }

    @Override
    public Void visitForLoop(ForLoopTree tree, Void p) {
        if (tree.getCondition() == null) {
            none("a loop without an end", tree);
        }
        return super.visitForLoop(tree, p);
    }

    @Override
    public Void visitWhileLoop(WhileLoopTree tree, Void p) {
        none("a loop that is not counted", tree);
        return super.visitWhileLoop(tree, p);
    }

    @Override
    public Void visitDoWhileLoop(DoWhileLoopTree tree, Void p) {
        none("a loop that is not counted", tree);
        return super.visitDoWhileLoop(tree, p);
    }

    @Override
    public Void visitEnhancedForLoop(EnhancedForLoopTree tree, Void p) {
        none("a loop by an iterator", tree);
        return super.visitEnhancedForLoop(tree, p);
    }

    @Override
    public Void visitTypeCast(TypeCastTree tree, Void p) {
        e.is("cast to " + tree.getType(), Set.of("byte", "short").contains(tree.getType().toString()) ? 1 : 0, 1);
        return super.visitTypeCast(tree, p);
    }

    @Override
    public Void visitThrow(ThrowTree tree, Void p) {
        none("throw", tree);
        return super.visitThrow(tree, p);
    }

    @Override
    public Void visitTry(TryTree tree, Void p) {
        none("try", tree);
        return super.visitTry(tree, p);
    }

    @Override
    public Void visitSynchronized(SynchronizedTree tree, Void p) {
        none("synchronized", tree);
        return super.visitSynchronized(tree, p);
    }

    @Override
    public Void visitAssert(AssertTree tree, Void p) {
        none("assert", tree);
        return super.visitAssert(tree, p);
    }

    @Override
    public Void visitLambdaExpression(LambdaExpressionTree tree, Void p) {
        none("lambda", tree);
        return super.visitLambdaExpression(tree, p);
    }

    @Override
    public Void visitMemberReference(MemberReferenceTree tree, Void p) {
        none("method reference", tree);
        return super.visitMemberReference(tree, p);
    }
}
