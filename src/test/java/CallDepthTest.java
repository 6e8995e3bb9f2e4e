import com.sun.source.tree.CompilationUnitTree;
import com.sun.source.tree.MethodInvocationTree;
import com.sun.source.tree.MethodTree;
import com.sun.source.tree.NewClassTree;
import com.sun.source.util.JavacTask;
import com.sun.source.util.TreePath;
import com.sun.source.util.TreePathScanner;
import com.sun.source.util.Trees;
import java.nio.file.Path;
import java.util.HashMap;
import java.util.LinkedHashSet;
import java.util.List;
import java.util.Map;
import java.util.Set;
import javax.lang.model.element.Element;
import javax.tools.JavaCompiler;
import javax.tools.StandardJavaFileManager;
import javax.tools.ToolProvider;

/**
 * Rules 8 and 11 of LANGUAGE.md: calls that are no recursion go at most eight deep. The class has no recursion at all,
 * so that every way through its own methods has an end, and the longest one is counted.
 */
public final class CallDepthTest {
    private static final int MOST_DEEP = 8;

    private final Map<Element, Set<Element>> callsOf = new HashMap<>();
    private final Map<Element, Integer> depths = new HashMap<>();
    private final Set<Element> open = new LinkedHashSet<>();

    public static void main(String[] args) throws Exception {
        new CallDepthTest().run();
        Check.end();
    }

    private void run() throws Exception {
        readCalls();
        for (Element method : callsOf.keySet()) {
            int depth = depth(method);
            if (depth > MOST_DEEP) {
                Check.tell("rule 11: " + name(method) + " goes " + depth + " deep");
            }
        }
        if (callsOf.size() < 24) {
            Check.tell("only " + callsOf.size() + " methods were found");
        }
    }

    private void readCalls() throws Exception {
        JavaCompiler compiler = ToolProvider.getSystemJavaCompiler();
        try (StandardJavaFileManager files = compiler.getStandardFileManager(null, null, null)) {
            JavacTask task = (JavacTask) compiler.getTask(null, files, null, List.of("-proc:none"), null,
                files.getJavaFileObjects(Path.of("src/main/java/TapeEnds.java")));
            Iterable<? extends CompilationUnitTree> units = task.parse();
            task.analyze();
            for (CompilationUnitTree unit : units) {
                new Calls(Trees.instance(task)).scan(unit, null);
            }
        }
    }

    /** Puts down for each method which methods and constructors it calls. */
    private final class Calls extends TreePathScanner<Void, Element> {
        private final Trees trees;

        Calls(Trees ofTask) {
            trees = ofTask;
        }

        @Override
        public Void visitMethod(MethodTree method, Element outer) {
            Element inside = trees.getElement(getCurrentPath());
            callsOf.putIfAbsent(inside, new LinkedHashSet<>());
            return super.visitMethod(method, inside);
        }

        @Override
        public Void visitMethodInvocation(MethodInvocationTree call, Element inside) {
            add(inside, trees.getElement(new TreePath(getCurrentPath(), call.getMethodSelect())));
            return super.visitMethodInvocation(call, inside);
        }

        @Override
        public Void visitNewClass(NewClassTree made, Element inside) {
            add(inside, trees.getElement(getCurrentPath()));
            return super.visitNewClass(made, inside);
        }

        private void add(Element inside, Element called) {
            if (inside != null && called != null) {
                callsOf.get(inside).add(called);
            }
        }
    }

    /** How many methods of the class stand open at most from this one on; those of the library are not counted. */
    private int depth(Element method) {
        if (!callsOf.containsKey(method)) {
            return 0;
        }
        if (depths.containsKey(method)) {
            return depths.get(method);
        }
        if (!open.add(method)) {
            Check.tell("rule 8: " + name(method) + " calls itself");
            return 0;
        }
        int deepest = 0;
        for (Element called : callsOf.get(method)) {
            deepest = Math.max(deepest, depth(called));
        }
        open.remove(method);
        depths.put(method, deepest + 1);
        return deepest + 1;
    }

    private static String name(Element method) {
        return method.getEnclosingElement().getSimpleName() + "." + method;
    }
}
