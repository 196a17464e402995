import com.sun.source.tree.ClassTree;
import com.sun.source.tree.CompilationUnitTree;
import com.sun.source.tree.MethodInvocationTree;
import com.sun.source.tree.MethodTree;
import com.sun.source.tree.NewArrayTree;
import com.sun.source.tree.NewClassTree;
import com.sun.source.tree.Tree;
import com.sun.source.tree.VariableTree;
import com.sun.source.util.JavacTask;
import com.sun.source.util.TreePathScanner;
import com.sun.source.util.Trees;
import java.io.File;
import java.io.IOException;
import java.util.LinkedHashMap;
import java.util.LinkedHashSet;
import java.util.List;
import java.util.Map;
import java.util.Set;
import javax.lang.model.element.Element;
import javax.lang.model.element.Modifier;
import javax.tools.JavaCompiler;
import javax.tools.StandardJavaFileManager;
import javax.tools.ToolProvider;

/** Rules 8, 11 and 12 of LANGUAGE.md, by the calls that stand in the file: how deep they go, and that none but a constructor makes an object. */
public final class CallsTest extends TreePathScanner<Void, Void> {
    private final Trees trees;
    private final Map<Element, Set<Element>> calls = new LinkedHashMap<>();
    private final Map<Element, Integer> depths = new LinkedHashMap<>();
    private Element within;
    private int classes;

    private CallsTest(Trees trees) {
        this.trees = trees;
    }

    public static void main(String[] args) throws IOException {
        JavaCompiler compiler = ToolProvider.getSystemJavaCompiler();
        try (StandardJavaFileManager files = compiler.getStandardFileManager(null, null, null)) {
            JavacTask task = (JavacTask) compiler.getTask(null, files, null, List.of("-proc:none"), null,
                files.getJavaFileObjects(new File("src/main/java/UphillCarts.java")));
            Iterable<? extends CompilationUnitTree> units = task.parse();
            task.analyze();
            CallsTest look = new CallsTest(Trees.instance(task));
            for (CompilationUnitTree unit : units) {
                look.scan(unit, null);
            }
            look.judge();
        }
        Check.end("CallsTest");
    }

    @Override
    public Void visitClass(ClassTree tree, Void none) {
        classes++;
        int fields = 0;
        for (Tree member : tree.getMembers()) {
            if (member instanceof VariableTree && !((VariableTree) member).getModifiers().getFlags().contains(Modifier.STATIC)) {
                fields++;
            }
        }
        Check.due(tree.getSimpleName() + " has twenty fields at most, " + fields, fields <= 20, true);
        return super.visitClass(tree, none);
    }

    @Override
    public Void visitMethod(MethodTree tree, Void none) {
        within = trees.getElement(getCurrentPath());
        calls.putIfAbsent(within, new LinkedHashSet<>());
        super.visitMethod(tree, none);
        within = null;
        return null;
    }

    @Override
    public Void visitMethodInvocation(MethodInvocationTree tree, Void none) {
        if (within != null) {
            calls.get(within).add(trees.getElement(getCurrentPath()));
        }
        return super.visitMethodInvocation(tree, none);
    }

    @Override
    public Void visitNewClass(NewClassTree tree, Void none) {
        makes(tree.toString(), getCurrentPath().getParentPath().getLeaf().getKind() == Tree.Kind.THROW);
        return super.visitNewClass(tree, none);
    }

    @Override
    public Void visitNewArray(NewArrayTree tree, Void none) {
        makes(tree.toString(), false);
        return super.visitNewArray(tree, none);
    }

    private void makes(String what, boolean thrown) {
        boolean inConstructor = within == null || within.getSimpleName().contentEquals("<init>");
        Check.due(within + " makes " + what, inConstructor || thrown, true);
    }

    private void judge() {
        Check.due("twelve classes at most, " + classes, classes <= 12, true);
        Check.due("methods were found", calls.size() > 100, true);
        for (Element method : calls.keySet()) {
            int depth = depthOf(method, new LinkedHashSet<>());
            Check.due(method + " goes " + depth + " deep, eight at most", depth <= 8, true);
        }
    }

    /** How many calls stand open at once from this one on, it and the library's among them. */
    private int depthOf(Element method, Set<Element> open) {
        if (depths.containsKey(method) || !calls.containsKey(method)) {
            return depths.getOrDefault(method, 1);
        }
        boolean again = !open.add(method);
        Check.due(method + " calls itself", again, false);
        int below = 0;
        for (Element called : calls.get(method)) {
            below = Math.max(below, again ? 0 : depthOf(called, open));
        }
        open.remove(method);
        depths.put(method, below + 1);
        return below + 1;
    }
}
