import java.io.IOException;
import java.nio.file.Files;
import java.nio.file.Path;
import java.util.ArrayList;
import java.util.HashSet;
import java.util.List;
import java.util.Set;
import java.util.regex.Matcher;
import java.util.regex.Pattern;

/** Rules of ../shared/LANGUAGE.md that can be seen from the text of the class; it is run at the project's root. */
public final class LanguageTest {
    private static final String[] NOT_ALLOWED = {
        "->", "::", "\\bfinally\\b", "\\bsynchronized\\b", "\\bassert\\b", "\\btry\\b", "\\bcatch\\b", "\\bnative\\b",
        "\\bSystem\\.(?!arraycopy)\\w+", "\\bThread\\b", "\\bRandom\\b", "Exact\\b",
        "\\bMath\\.(?!abs|min|max)\\w+", "\\bArrays\\.(?!fill|copyOf|copyOfRange)\\w+", "\\bpackage\\b", "\\bprotected\\b",
        "\\bstatic\\s*\\{", "\\bvar\\b", "\\bObject\\b", "\\bfloat\\b", "\\bdouble\\b", "\\[\\]\\s*\\[\\]", "\\bgetMessage\\b",
        "\\bString\\s+\\w+\\s*=\\s*\"[^\"]*\"\\s*\\+", "while \\(true\\)", "for \\(;"};

    private static int wrong = 0;

    public static void main(String[] args) throws IOException {
        String whole = Files.readString(Path.of("src/main/java/BubbleLeases.java"));
        String code = whole.replaceAll("(?s)/\\*.*?\\*/", "").replaceAll("//[^\n]*", "");
        for (char c : whole.toCharArray()) {
            if (c != '\n' && (c < 32 || c > 126)) {
                say("a sign that is none of 32 to 126: " + (int) c);
            }
        }
        for (String pattern : NOT_ALLOWED) {
            Matcher m = Pattern.compile(pattern).matcher(code);
            if (m.find()) {
                say("not allowed: " + m.group());
            }
        }
        imports(code);
        exceptions(code);
        classes(code);
        methods(code);
        System.out.println(wrong == 0 ? "the language is kept to" : wrong + " places are outside the language");
        if (wrong != 0) {
            System.exit(1);
        }
    }

    private static void say(String what) {
        wrong++;
        System.out.println(what);
    }

    private static void imports(String code) {
        Matcher m = Pattern.compile("import ([^;]*);").matcher(code);
        while (m.find()) {
            if (!m.group(1).equals("java.util.Arrays") && !m.group(1).equals("java.util.NoSuchElementException")) {
                say("import of " + m.group(1));
            }
        }
    }

    private static void exceptions(String code) {
        Matcher m = Pattern.compile("throw new (\\w+)\\(\\)|throw\\b[^;]*").matcher(code);
        while (m.find()) {
            String thrown = m.group(1);
            boolean signature = m.group().startsWith("throws");
            if (!signature && !"IllegalArgumentException".equals(thrown) && !"NoSuchElementException".equals(thrown)) {
                say("thrown: " + m.group());
            }
        }
    }

    private static void classes(String code) {
        int classes = 0;
        Matcher m = Pattern.compile("([\\w ]*)\\b(class|enum|interface|record) (\\w+)").matcher(code);
        while (m.find()) {
            classes++;
            String due = m.group(3).equals("BubbleLeases") ? "public final " : "private static final ";
            if (!m.group(1).strip().equals(due.strip())) {
                say("class " + m.group(3) + " is " + m.group(1).strip());
            }
        }
        if (classes > 12) {
            say(classes + " classes");
        }
    }

    private static void methods(String code) {
        Pattern head = Pattern.compile("^(?: {4}| {8})((?:public |private |static |final )*)([\\w\\[\\]]+ )?(\\w+)\\(([^)]*)\\)[^;{]*\\{$", Pattern.MULTILINE);
        Set<String> open = new HashSet<>();
        List<String> others = new ArrayList<>();
        Matcher m = head.matcher(code);
        while (m.find()) {
            String name = m.group(3);
            boolean face = m.group(1).contains("public");
            int parameters = m.group(4).isBlank() ? 0 : m.group(4).split(",").length;
            if (parameters > 7 && !name.equals("would")) {
                say(name + " takes " + parameters);
            }
            int indent = m.group().indexOf(m.group().strip());
            int end = code.indexOf("\n" + " ".repeat(indent) + "}\n", m.end());
            long lines = code.substring(m.start(), end).lines().count() + 1;
            if (lines > 60) {
                say(name + " has " + lines + " lines");
            }
            if (face) {
                open.add(name);
            } else {
                others.add(name);
            }
        }
        others.retainAll(open);
        if (!others.isEmpty()) {
            say("names of the face that others bear: " + others);
        }
        if (open.size() != 44) {
            say("the face has " + open.size() + " names with its constructor, due are 44");
        }
    }
}
