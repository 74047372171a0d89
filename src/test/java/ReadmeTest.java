import java.io.ByteArrayOutputStream;
import java.io.IOException;
import java.io.PrintStream;
import java.lang.reflect.Method;
import java.net.URL;
import java.net.URLClassLoader;
import java.nio.file.Files;
import java.nio.file.Path;
import java.util.Arrays;
import java.util.List;
import java.util.Set;
import java.util.TreeSet;
import java.util.regex.Matcher;
import java.util.regex.Pattern;
import java.util.stream.Collectors;
import java.util.stream.Stream;
import javax.tools.ToolProvider;

/** README.md: its program prints what it says there, its tables name all calls and all tests. It is run at the root. */
public final class ReadmeTest {
    private static int wrong = 0;

    public static void main(String[] args) throws Exception {
        String readme = Files.readString(Path.of("README.md"));
        String printed = printedBy(block(readme, "java"));
        need(printed.equals(block(readme, "text")), "the program prints what README.md says; it printed:\n" + printed);
        calls(readme.substring(readme.indexOf("### The calls"), readme.indexOf("## Its tests")));
        tests(readme.substring(readme.indexOf("## Its tests")));
        texts(readme.substring(readme.indexOf("### The texts"), readme.indexOf("### The calls")));
        System.out.println(wrong == 0 ? "README.md is as the class is" : wrong + " places of README.md are wrong");
        if (wrong != 0) {
            System.exit(1);
        }
    }

    private static void need(boolean right, String what) {
        if (!right) {
            wrong++;
            System.out.println("not as due: " + what);
        }
    }

    /** The first block of a kind. */
    private static String block(String readme, String kind) {
        Matcher block = Pattern.compile("(?s)```" + kind + "\n(.*?)```").matcher(readme);
        return block.find() ? block.group(1) : "";
    }

    private static String printedBy(String program) throws Exception {
        Path place = Files.createTempDirectory("readme");
        Path file = place.resolve("Example.java");
        Files.writeString(file, program);
        int answer = ToolProvider.getSystemJavaCompiler().run(null, null, null, "-proc:none", "-d", place.toString(),
                "src/main/java/BubbleLeases.java", file.toString());
        need(answer == 0, "the program of README.md compiles");
        String printed = answer == 0 ? run(place) : "";
        try (Stream<Path> files = Files.list(place)) {
            for (Path made : files.collect(Collectors.toList())) {
                Files.delete(made);
            }
        }
        Files.delete(place);
        return printed;
    }

    private static String run(Path place) throws Exception {
        PrintStream screen = System.out;
        ByteArrayOutputStream bytes = new ByteArrayOutputStream();
        // Without a parent of ours, so that the class that was just compiled is the one that is used.
        ClassLoader above = ClassLoader.getPlatformClassLoader();
        try (URLClassLoader loader = new URLClassLoader(new URL[] {place.toUri().toURL()}, above)) {
            System.setOut(new PrintStream(bytes, true));
            loader.loadClass("Example").getMethod("main", String[].class).invoke(null, (Object) new String[0]);
        } finally {
            System.setOut(screen);
        }
        return bytes.toString().replace("\r", "");
    }

    private static Set<String> quoted(String text) {
        return Pattern.compile("`(\\w+)`").matcher(text).results().map(m -> m.group(1))
                .collect(Collectors.toCollection(TreeSet::new));
    }

    private static void calls(String table) {
        Set<String> named = quoted(table);
        named.removeAll(List.of("NONE", "NoSuchElementException", "IllegalArgumentException"));
        Set<String> due = Arrays.stream(BubbleLeases.class.getMethods())
                .filter(method -> method.getDeclaringClass() == BubbleLeases.class).map(Method::getName)
                .collect(Collectors.toCollection(TreeSet::new));
        need(named.equals(due), "the calls named are " + named + ", due are " + due);
    }

    private static void tests(String table) throws IOException {
        Set<String> named = quoted(table);
        named.removeIf(name -> !name.endsWith("Test"));
        Set<String> due = new TreeSet<>();
        try (Stream<Path> files = Files.list(Path.of("src/test/java"))) {
            files.map(file -> file.getFileName().toString()).filter(name -> name.endsWith("Test.java"))
                    .forEach(name -> due.add(name.replace(".java", "")));
        }
        need(named.equals(due), "the tests named are " + named + ", due are " + due);
        need(table.contains("    .ci/run\n"), "the command that runs all tests");
        need(Files.isExecutable(Path.of(".ci/run")), ".ci/run can be run");
    }

    /** The texts that stand there as examples are right. */
    private static void texts(String table) {
        BubbleLeases x = new BubbleLeases();
        Matcher row = Pattern.compile("\\| `(corner|law|work|book)` \\| (\\d+) \\| `([^`]*)`").matcher(table);
        int rows = 0;
        Bench.corner(x, Bench.CORNER);
        while (row.find()) {
            rows++;
            int answer = take(x, row.group(1), row.group(3));
            need(answer >= 0 && x.fault() == -1, row.group(3) + " is right, it answered " + answer);
            if (row.group(1).equals("corner")) {
                Bench.corner(x, Bench.CORNER);
            }
        }
        need(rows == 4, "four texts as examples, there are " + rows);
    }

    private static int take(BubbleLeases x, String as, String text) {
        switch (as) {
            case "corner": return Bench.corner(x, text);
            case "law": return Bench.law(x, text);
            case "work": return Bench.work(x, text);
            default: return Bench.book(x, text);
        }
    }
}
