import com.sun.source.tree.ClassTree;
import com.sun.source.tree.CompilationUnitTree;
import com.sun.source.tree.MethodInvocationTree;
import com.sun.source.tree.MethodTree;
import com.sun.source.tree.NewClassTree;
import com.sun.source.tree.Tree;
import com.sun.source.tree.VariableTree;
import com.sun.source.util.JavacTask;
import com.sun.source.util.TreePathScanner;
import com.sun.source.util.Trees;
import java.io.File;
import java.io.IOException;
import java.util.HashMap;
import java.util.HashSet;
import java.util.LinkedHashMap;
import java.util.List;
import java.util.Map;
import java.util.Set;
import java.util.TreeSet;
import javax.lang.model.element.Element;
import javax.lang.model.element.Modifier;
import javax.tools.JavaCompiler;
import javax.tools.StandardJavaFileManager;
import javax.tools.ToolProvider;

/** LANGUAGE.md's rules 8 and 11, as the compiler sees the program: how deep calls go, how many fields and classes. */
public final class DepthTest extends TreePathScanner<Void, Element> {
    private static final int DEEPEST = 8;
    private static final int MOST_FIELDS = 20;
    private static final int MOST_CLASSES = 12;

    private final Trees trees;
    private final Map<Element, Set<Element>> calls = new LinkedHashMap<>();
    private final Map<Element, Integer> depths = new HashMap<>();
    private final Set<Element> open = new HashSet<>();
    private int classes = 0;

    private DepthTest(Trees trees) {
        this.trees = trees;
    }

    @Override
    public Void visitClass(ClassTree tree, Element caller) {
        classes++;
        int fields = 0;
        for (Tree member : tree.getMembers()) {
            if (member instanceof VariableTree field
                    && !field.getModifiers().getFlags().contains(Modifier.STATIC)) {
                fields++;
            }
        }
        Check.due("rule 11: fields of " + tree.getSimpleName() + ": " + fields, fields <= MOST_FIELDS, true);
        return super.visitClass(tree, caller);
    }

    @Override
    public Void visitMethod(MethodTree tree, Element caller) {
        Element method = trees.getElement(getCurrentPath());
        calls.putIfAbsent(method, new HashSet<>());
        return super.visitMethod(tree, method);
    }

    @Override
    public Void visitMethodInvocation(MethodInvocationTree tree, Element caller) {
        note(caller);
        return super.visitMethodInvocation(tree, caller);
    }

    @Override
    public Void visitNewClass(NewClassTree tree, Element caller) {
        note(caller);
        return super.visitNewClass(tree, caller);
    }

    private void note(Element caller) {
        if (caller != null) {
            calls.get(caller).add(trees.getElement(getCurrentPath()));
        }
    }

    /** How many methods of the program stand open at once, this one too; those of the library count as none. */
    private int depth(Element method) {
        if (!calls.containsKey(method)) {
            return 0;
        }
        if (depths.containsKey(method)) {
            return depths.get(method);
        }
        Check.due("rule 8: " + method + " calls itself", open.add(method), true);
        int deepest = 0;
        for (Element called : calls.get(method)) {
            deepest = Math.max(deepest, open.contains(called) ? DEEPEST : depth(called));
        }
        open.remove(method);
        depths.put(method, deepest + 1);
        return deepest + 1;
    }

    /** A method that nobody calls is no use to the program. */
    private void everyoneIsCalled() {
        Set<Element> called = new HashSet<>();
        calls.values().forEach(called::addAll);
        Set<String> idle = new TreeSet<>();
        for (Element method : calls.keySet()) {
            boolean face = method.getModifiers().contains(Modifier.PUBLIC);
            if (!face && !called.contains(method) && !method.getSimpleName().contentEquals("<init>")) {
                idle.add(method.toString());
            }
        }
        Check.due("methods that nobody calls: " + idle, idle.isEmpty(), true);
    }

    private void finish() {
        for (Element method : calls.keySet()) {
            Check.due("rule 11: calls of " + method + " go deep: " + depth(method), depth(method) <= DEEPEST, true);
        }
        everyoneIsCalled();
        Check.due("rule 11: classes: " + classes, classes <= MOST_CLASSES, true);
        Check.due("methods were seen", calls.size() > 39, true);
        Check.finish("DepthTest");
    }

    public static void main(String[] args) throws IOException {
        JavaCompiler compiler = ToolProvider.getSystemJavaCompiler();
        try (StandardJavaFileManager files = compiler.getStandardFileManager(null, null, null)) {
            JavacTask task = (JavacTask) compiler.getTask(null, files, null, List.of("-proc:none"), null,
                    files.getJavaFileObjects(new File("src/main/java/HushWatch.java")));
            Iterable<? extends CompilationUnitTree> units = task.parse();
            task.analyze();
            DepthTest test = new DepthTest(Trees.instance(task));
            test.scan(units, null);
            test.finish();
        }
    }
}
