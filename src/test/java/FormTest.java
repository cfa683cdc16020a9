import com.sun.source.tree.ClassTree;
import com.sun.source.tree.CompilationUnitTree;
import com.sun.source.tree.MethodInvocationTree;
import com.sun.source.tree.MethodTree;
import com.sun.source.tree.NewArrayTree;
import com.sun.source.tree.NewClassTree;
import com.sun.source.tree.Tree;
import com.sun.source.tree.VariableTree;
import com.sun.source.util.JavacTask;
import com.sun.source.util.TreePath;
import com.sun.source.util.TreePathScanner;
import com.sun.source.util.Trees;
import java.io.IOException;
import java.nio.file.Path;
import java.util.ArrayList;
import java.util.LinkedHashMap;
import java.util.LinkedHashSet;
import java.util.List;
import java.util.Map;
import java.util.Set;
import javax.lang.model.element.Element;
import javax.lang.model.element.ElementKind;
import javax.lang.model.element.Modifier;
import javax.tools.JavaCompiler;
import javax.tools.StandardJavaFileManager;
import javax.tools.ToolProvider;

/** What of LANGUAGE.md the compiler's tree of the source shows: its constructs, its library, its depth of calls. */
public final class FormTest extends TreePathScanner<Void, Element> {
    private static final int DEEPEST = 8;
    private static final Set<Tree.Kind> OUT = Set.of(Tree.Kind.THROW, Tree.Kind.TRY, Tree.Kind.CATCH, Tree.Kind.SYNCHRONIZED,
        Tree.Kind.ASSERT, Tree.Kind.LAMBDA_EXPRESSION, Tree.Kind.MEMBER_REFERENCE, Tree.Kind.SWITCH_EXPRESSION,
        Tree.Kind.DOUBLE_LITERAL, Tree.Kind.FLOAT_LITERAL, Tree.Kind.IMPORT, Tree.Kind.ANNOTATION);
    // What the source uses today; rule 4 allows more, which is to be added here when it is first used.
    private static final Set<String> LIBRARY = Set.of("Integer.bitCount", "Math.max", "Math.min", "String.charAt",
        "String.indexOf", "String.length", "System.arraycopy", "Object.<init>");
    // The grammar's own recursion, which the depth of open brackets bounds (rule 8).
    private static final Set<String> RECURSIVE = Set.of("Reader.readLevel", "Reader.readNot", "Reader.readOne");

    private final Due due;
    private final Trees trees;
    private final Map<Element, Set<Element>> calls = new LinkedHashMap<>();
    private int classes = 0;

    private FormTest(Due due, Trees trees) {
        this.due = due;
        this.trees = trees;
    }

    private static String nameOf(Element e) {
        return e.getEnclosingElement().getSimpleName() + "." + e.getSimpleName();
    }

    @Override public Void scan(Tree node, Element inside) {
        if (node != null && OUT.contains(node.getKind())) {
            due.hold("no " + node.getKind() + ": " + node, false);
        }
        return super.scan(node, inside);
    }

    @Override public Void visitClass(ClassTree node, Element inside) {
        classes++;
        due.hold("no local or anonymous class: " + node.getSimpleName(), inside == null);
        return super.visitClass(node, null);
    }

    @Override public Void visitMethod(MethodTree node, Element inside) {
        Element own = trees.getElement(getCurrentPath());
        calls.putIfAbsent(own, new LinkedHashSet<>());
        due.hold("seven parameters at most: " + nameOf(own), node.getParameters().size() <= 7);
        return super.visitMethod(node, own);
    }

    @Override public Void visitVariable(VariableTree node, Element inside) {
        Set<Modifier> marks = node.getModifiers().getFlags();
        boolean steady = !marks.contains(Modifier.STATIC) || marks.contains(Modifier.FINAL);
        due.hold("static and final: " + node.getName(), steady);
        return super.visitVariable(node, inside);
    }

    @Override public Void visitMethodInvocation(MethodInvocationTree node, Element inside) {
        note(inside, trees.getElement(new TreePath(getCurrentPath(), node.getMethodSelect())));
        return super.visitMethodInvocation(node, inside);
    }

    @Override public Void visitNewClass(NewClassTree node, Element inside) {
        note(inside, trees.getElement(getCurrentPath()));
        madeIn(node, inside);
        return super.visitNewClass(node, inside);
    }

    @Override public Void visitNewArray(NewArrayTree node, Element inside) {
        madeIn(node, inside);
        return super.visitNewArray(node, inside);
    }

    private void madeIn(Tree node, Element inside) {
        due.hold("made in a constructor: " + node, inside == null || inside.getKind() == ElementKind.CONSTRUCTOR);
    }

    private void note(Element inside, Element called) {
        boolean own = called.getEnclosingElement().toString().startsWith("OneCubeEach");
        due.hold("of the library: " + nameOf(called), own || LIBRARY.contains(nameOf(called)));
        if (inside != null) {
            calls.get(inside).add(called);
        }
    }

    /** The names on the longest way down, without those of the recursion. */
    private List<String> deepest(Element from, List<Element> way) {
        List<String> best = new ArrayList<>();
        way.add(from);
        for (Element next : calls.getOrDefault(from, Set.of())) {
            if (way.contains(next)) {
                due.hold("recursion only in the grammar: " + nameOf(next), RECURSIVE.contains(nameOf(next)));
                continue;
            }
            List<String> one = deepest(next, way);
            best = one.size() > best.size() ? one : best;
        }
        way.remove(way.size() - 1);
        if (!RECURSIVE.contains(nameOf(from))) {
            best.add(0, nameOf(from));
        }
        return best;
    }

    private void depth() {
        for (Element from : calls.keySet()) {
            List<String> names = deepest(from, new ArrayList<>());
            due.hold("eight deep at most: " + names, names.size() <= DEEPEST);
        }
    }

    public static void main(String[] args) throws IOException {
        Due due = new Due();
        Path path = Path.of(System.getProperty("project.root", "."), "src/main/java/OneCubeEach.java");
        JavaCompiler compiler = ToolProvider.getSystemJavaCompiler();
        StandardJavaFileManager files = compiler.getStandardFileManager(null, null, null);
        JavacTask task = (JavacTask) compiler.getTask(null, files, null, List.of("--release", "17", "-proc:none"), null,
            files.getJavaFileObjects(path.toFile()));
        Iterable<? extends CompilationUnitTree> units = task.parse();
        task.analyze();
        FormTest form = new FormTest(due, Trees.instance(task));
        for (CompilationUnitTree unit : units) {
            form.scan(unit, null);
        }
        due.hold("the source was read", form.calls.size() > 30);
        due.hold("some twelve classes: " + form.classes, form.classes <= 12);
        form.depth();
        due.end();
    }
}
