import com.sun.source.tree.ClassTree;
import com.sun.source.tree.CompilationUnitTree;
import com.sun.source.tree.MethodInvocationTree;
import com.sun.source.tree.MethodTree;
import com.sun.source.tree.NewClassTree;
import com.sun.source.util.JavacTask;
import com.sun.source.util.TreePath;
import com.sun.source.util.TreePathScanner;
import com.sun.source.util.Trees;
import java.io.File;
import java.io.IOException;
import java.util.ArrayDeque;
import java.util.ArrayList;
import java.util.Deque;
import java.util.LinkedHashMap;
import java.util.LinkedHashSet;
import java.util.List;
import java.util.Map;
import java.util.Set;
import javax.lang.model.element.Element;
import javax.tools.JavaCompiler;
import javax.tools.StandardJavaFileManager;
import javax.tools.ToolProvider;

/** LANGUAGE.md 8 and 11: no method calls itself, by others either, and calls go at most eight deep. */
public final class CallDepthTest {
    private static final Check CHECK = new Check("CallDepthTest");
    private static final String SOURCE = "src/main/java/HedgehogBorder.java";
    private static final int DEEPEST = 8;
    private static final Map<Element, Set<Element>> CALLS = new LinkedHashMap<>();

    private CallDepthTest() {
    }

    public static void main(String[] args) throws IOException {
        gather();
        CHECK.due("the class has methods", CALLS.size() > 37 ? 1 : 0, 1);
        for (Element method : CALLS.keySet()) {
            Deque<Element> open = new ArrayDeque<>();
            int depth = depthOf(method, open);
            CHECK.due("eight deep at most: " + name(method), Math.max(DEEPEST, depth), DEEPEST);
        }
        CHECK.end();
    }

    /** Which method or constructor of the class calls which, by what the compiler knows of the names. */
    private static void gather() throws IOException {
        JavaCompiler compiler = ToolProvider.getSystemJavaCompiler();
        try (StandardJavaFileManager files = compiler.getStandardFileManager(null, null, null)) {
            JavacTask task = (JavacTask) compiler.getTask(null, files, null, List.of("-proc:none"), null,
                files.getJavaFileObjects(new File(SOURCE)));
            List<CompilationUnitTree> units = new ArrayList<>();
            task.parse().forEach(units::add);
            task.analyze();
            Trees trees = Trees.instance(task);
            for (CompilationUnitTree unit : units) {
                new Scanner(trees).scan(unit, null);
            }
        }
    }

    private static final class Scanner extends TreePathScanner<Void, Void> {
        private final Trees trees;
        private Element caller = null;

        private Scanner(Trees trees) {
            this.trees = trees;
        }

        @Override
        public Void visitClass(ClassTree tree, Void nothing) {
            Element outer = caller;
            caller = null;
            super.visitClass(tree, nothing);
            caller = outer;
            return null;
        }

        @Override
        public Void visitMethod(MethodTree tree, Void nothing) {
            caller = trees.getElement(getCurrentPath());
            CALLS.putIfAbsent(caller, new LinkedHashSet<>());
            super.visitMethod(tree, nothing);
            caller = null;
            return null;
        }

        @Override
        public Void visitMethodInvocation(MethodInvocationTree tree, Void nothing) {
            called(new TreePath(getCurrentPath(), tree.getMethodSelect()));
            return super.visitMethodInvocation(tree, nothing);
        }

        @Override
        public Void visitNewClass(NewClassTree tree, Void nothing) {
            called(getCurrentPath());
            return super.visitNewClass(tree, nothing);
        }

        private void called(TreePath path) {
            if (caller != null) {
                CALLS.get(caller).add(trees.getElement(path));
            }
        }
    }

    /** How many methods stand open at once; one that is open already would be called by itself. */
    private static int depthOf(Element method, Deque<Element> open) {
        if (open.contains(method)) {
            CHECK.due("calls itself: " + name(method), 1, 0);
            return 0;
        }
        open.push(method);
        int deepest = 0;
        for (Element called : CALLS.getOrDefault(method, Set.of())) {
            deepest = Math.max(deepest, depthOf(called, open));
        }
        open.pop();
        return 1 + deepest;
    }

    private static String name(Element method) {
        return method.getEnclosingElement().getSimpleName() + "." + method.getSimpleName();
    }
}
