import com.sun.source.tree.CompilationUnitTree;
import com.sun.source.tree.MethodInvocationTree;
import com.sun.source.tree.MethodTree;
import com.sun.source.tree.NewClassTree;
import com.sun.source.util.JavacTask;
import com.sun.source.util.TreePathScanner;
import com.sun.source.util.Trees;
import java.io.IOException;
import java.nio.file.Path;
import java.util.ArrayList;
import java.util.LinkedHashSet;
import java.util.List;
import java.util.Map;
import java.util.Set;
import java.util.TreeMap;
import java.util.TreeSet;
import javax.lang.model.element.Element;
import javax.lang.model.element.Modifier;
import javax.tools.JavaCompiler;
import javax.tools.StandardJavaFileManager;
import javax.tools.ToolProvider;

/**
 * LANGUAGE.md by the compiler's own tree: rule 4, which calls of the library there are; rule 8, methods that come to
 * themselves again are private; rule 11, other calls go at most eight deep. It is run at the project's root.
 */
public final class CallsTest {
    private static final int DEEPEST = 8;

    private static final Set<String> LIBRARY = Set.of(
            "java.lang.Math.abs(int)", "java.lang.Math.max(int,int)", "java.lang.Math.min(int,int)",
            "java.lang.Integer.bitCount(int)", "java.lang.String.length()", "java.lang.String.charAt(int)",
            "java.lang.System.arraycopy(java.lang.Object,int,java.lang.Object,int,int)",
            "java.util.Arrays.fill(int[],int)", "java.lang.IllegalArgumentException.IllegalArgumentException()",
            "java.util.NoSuchElementException.NoSuchElementException()", "java.lang.Object.Object()");

    private final Map<String, Set<String>> calls = new TreeMap<>();
    private final Set<String> privates = new TreeSet<>();
    private List<String> longest = new ArrayList<>();
    private int wrong = 0;

    public static void main(String[] args) throws IOException {
        CallsTest test = new CallsTest();
        test.read(Path.of("src/main/java/BubbleLeases.java"));
        test.lookAtLibrary();
        test.lookAtRecursion();
        test.lookAtDepth();
        if (test.wrong != 0) {
            System.exit(1);
        }
    }

    private void say(String what) {
        wrong++;
        System.out.println(what);
    }

    private void lookAtLibrary() {
        for (String method : calls.keySet()) {
            for (String called : calls.get(method)) {
                if (!calls.containsKey(called) && !LIBRARY.contains(called) && !isOwnConstructor(called)) {
                    say(method + " calls " + called + ", which is not listed here");
                }
            }
        }
    }

    private static boolean isOwnConstructor(String called) {
        return called.matches("BubbleLeases\\.(\\w+)\\.\\1\\(\\)");
    }

    private void lookAtRecursion() {
        Set<String> again = new TreeSet<>();
        for (String method : calls.keySet()) {
            if (reaches(method).contains(method)) {
                again.add(method);
                if (!privates.contains(method)) {
                    say(method + " comes to itself again, but is not private");
                }
            }
        }
        System.out.println(again.size() + " methods come to themselves again: " + String.join(", ", again));
    }

    private Set<String> reaches(String from) {
        Set<String> all = new LinkedHashSet<>(calls.get(from));
        List<String> open = new ArrayList<>(all);
        while (!open.isEmpty()) {
            for (String next : calls.getOrDefault(open.remove(open.size() - 1), Set.of())) {
                if (all.add(next)) {
                    open.add(next);
                }
            }
        }
        return all;
    }

    private void lookAtDepth() {
        for (String method : calls.keySet()) {
            follow(method, new LinkedHashSet<>());
        }
        System.out.println("the deepest of " + calls.size() + " methods: " + String.join(", ", longest));
        if (calls.size() < 44 || longest.size() > DEEPEST) {
            say("calls go " + longest.size() + " deep, due are " + DEEPEST + " at most");
        }
    }

    /** The longest way from a method on that comes to none twice. */
    private void follow(String method, LinkedHashSet<String> way) {
        way.add(method);
        if (way.size() > longest.size()) {
            longest = new ArrayList<>(way);
        }
        for (String next : calls.getOrDefault(method, Set.of())) {
            if (!way.contains(next)) {
                follow(next, way);
            }
        }
        way.remove(method);
    }

    private void read(Path file) throws IOException {
        JavaCompiler compiler = ToolProvider.getSystemJavaCompiler();
        try (StandardJavaFileManager files = compiler.getStandardFileManager(null, null, null)) {
            JavacTask task = (JavacTask) compiler.getTask(null, files, null, List.of("-proc:none"), null,
                    files.getJavaFileObjects(file));
            Iterable<? extends CompilationUnitTree> units = task.parse();
            task.analyze();
            Trees trees = Trees.instance(task);
            for (CompilationUnitTree unit : units) {
                new Calls(trees).scan(unit, null);
            }
        }
    }

    private final class Calls extends TreePathScanner<Void, String> {
        private final Trees trees;

        Calls(Trees trees) {
            this.trees = trees;
        }

        private String name(Element method) {
            return method.getEnclosingElement() + "." + method;
        }

        @Override
        public Void visitMethod(MethodTree tree, String from) {
            Element method = trees.getElement(getCurrentPath());
            String name = name(method);
            calls.putIfAbsent(name, new LinkedHashSet<>());
            if (method.getModifiers().contains(Modifier.PRIVATE)) {
                privates.add(name);
            }
            return super.visitMethod(tree, name);
        }

        @Override
        public Void visitMethodInvocation(MethodInvocationTree tree, String from) {
            note(trees.getElement(getCurrentPath()), from);
            return super.visitMethodInvocation(tree, from);
        }

        @Override
        public Void visitNewClass(NewClassTree tree, String from) {
            note(trees.getElement(getCurrentPath()), from);
            return super.visitNewClass(tree, from);
        }

        /** Calls of the library lead nowhere that is ours, but are calls too. */
        private void note(Element method, String from) {
            if (from != null && method != null) {
                calls.get(from).add(name(method));
            }
        }
    }
}
