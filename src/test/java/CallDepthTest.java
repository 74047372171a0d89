import com.sun.source.tree.CompilationUnitTree;
import com.sun.source.tree.MethodInvocationTree;
import com.sun.source.tree.MethodTree;
import com.sun.source.tree.NewClassTree;
import com.sun.source.util.JavacTask;
import com.sun.source.util.TreePathScanner;
import com.sun.source.util.Trees;
import java.io.IOException;
import java.nio.file.Path;
import java.util.ArrayList;
import java.util.LinkedHashSet;
import java.util.List;
import java.util.Map;
import java.util.Set;
import java.util.TreeMap;
import javax.lang.model.element.Element;
import javax.tools.JavaCompiler;
import javax.tools.StandardJavaFileManager;
import javax.tools.ToolProvider;

/** LANGUAGE.md, rule 11: calls that are no recursion go at most eight deep; it is run at the project's root. */
public final class CallDepthTest {
    private static final int DEEPEST = 8;

    private final Map<String, Set<String>> calls = new TreeMap<>();
    private List<String> longest = new ArrayList<>();

    public static void main(String[] args) throws IOException {
        CallDepthTest test = new CallDepthTest();
        test.read(Path.of("src/main/java/BubbleLeases.java"));
        for (String method : test.calls.keySet()) {
            test.follow(method, new LinkedHashSet<>());
        }
        System.out.println("the deepest of " + test.calls.size() + " methods: " + String.join(", ", test.longest));
        if (test.calls.size() < 44 || test.longest.size() > DEEPEST) {
            System.out.println("calls go " + test.longest.size() + " deep, due are " + DEEPEST + " at most");
            System.exit(1);
        }
    }

    private void read(Path file) throws IOException {
        JavaCompiler compiler = ToolProvider.getSystemJavaCompiler();
        try (StandardJavaFileManager files = compiler.getStandardFileManager(null, null, null)) {
            JavacTask task = (JavacTask) compiler.getTask(null, files, null, List.of("-proc:none"), null,
                    files.getJavaFileObjects(file));
            Iterable<? extends CompilationUnitTree> units = task.parse();
            task.analyze();
            Trees trees = Trees.instance(task);
            for (CompilationUnitTree unit : units) {
                new Calls(trees).scan(unit, null);
            }
        }
    }

    /** The longest way from a method on that comes to none twice. */
    private void follow(String method, LinkedHashSet<String> way) {
        way.add(method);
        if (way.size() > longest.size()) {
            longest = new ArrayList<>(way);
        }
        for (String next : calls.getOrDefault(method, Set.of())) {
            if (!way.contains(next)) {
                follow(next, way);
            }
        }
        way.remove(method);
    }

    private final class Calls extends TreePathScanner<Void, String> {
        private final Trees trees;

        Calls(Trees trees) {
            this.trees = trees;
        }

        private String name(Element method) {
            return method.getEnclosingElement() + "." + method;
        }

        @Override
        public Void visitMethod(MethodTree tree, String from) {
            String name = name(trees.getElement(getCurrentPath()));
            calls.putIfAbsent(name, new LinkedHashSet<>());
            return super.visitMethod(tree, name);
        }

        @Override
        public Void visitMethodInvocation(MethodInvocationTree tree, String from) {
            note(trees.getElement(getCurrentPath()), from);
            return super.visitMethodInvocation(tree, from);
        }

        @Override
        public Void visitNewClass(NewClassTree tree, String from) {
            note(trees.getElement(getCurrentPath()), from);
            return super.visitNewClass(tree, from);
        }

        /** Calls of the library lead nowhere that is ours, but are calls too. */
        private void note(Element method, String from) {
            if (from != null && method != null) {
                calls.get(from).add(name(method));
            }
        }
    }
}
