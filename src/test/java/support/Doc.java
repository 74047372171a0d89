import java.io.IOException;
import java.nio.file.Files;
import java.nio.file.Path;
import java.util.Map;
import java.util.TreeMap;
import java.util.regex.Matcher;
import java.util.regex.Pattern;

/** The document's sentences, and which of them tests were named for; it is run at the project's root. */
public final class Doc {
    /** Where a sentence stands that is no promise's. */
    public static final int TERMS = 0;
    public static final int WHAT_IT_IS = -1;

    private static final Path FILE = Path.of("../shared/DOC.md");

    private final Map<Integer, String> parts = new TreeMap<>();
    private final Map<Integer, boolean[]> named = new TreeMap<>();

    /** Without the document (a checkout without ../shared) there is nothing to look sentences up in. */
    public static Doc read() throws IOException {
        Doc doc = new Doc();
        if (Files.isReadable(FILE)) {
            doc.take(Files.readString(FILE));
        } else {
            System.out.println("no " + FILE + " here: the sentences were not looked up");
        }
        return doc;
    }

    private void take(String whole) {
        Matcher heads = Pattern.compile("(?m)^## (.*)$").matcher(whole);
        int part = Integer.MIN_VALUE;
        int from = 0;
        while (heads.find()) {
            put(part, whole.substring(from, heads.start()));
            part = partOf(heads.group(1));
            from = heads.end();
        }
        put(part, whole.substring(from));
    }

    private static int partOf(String head) {
        Matcher promise = Pattern.compile("Promise (\\d+): .*").matcher(head);
        if (promise.matches()) {
            return Integer.parseInt(promise.group(1));
        }
        return head.equals("Terms") ? TERMS : head.equals("What it is") ? WHAT_IT_IS : Integer.MIN_VALUE;
    }

    private void put(int part, String text) {
        if (part == Integer.MIN_VALUE) {
            return;
        }
        String flat = flat(text);
        // A promise begins with its signature, What it is with the list of all that comes.
        String said = part > 0 ? flat.replaceFirst("^`[^`]*`: ", "") : flat.replaceFirst("^Bubbles are let out.*==== 1\\. ", "");
        parts.put(part, said);
        named.put(part, new boolean[said.length()]);
    }

    private static String flat(String text) {
        return text.replaceAll("```\\w*", " ").replaceAll("==== [23]\\.", " ").replaceAll("\\s+", " ").strip();
    }

    /** What is wrong with a test that is named for this sentence; null: nothing. */
    public String name(int part, String sentence) {
        if (parts.isEmpty()) {
            return null;
        }
        String said = parts.getOrDefault(part, "");
        int at = said.indexOf(sentence);
        if (at < 0) {
            return "it does not stand there";
        }
        if (said.indexOf(sentence, at + 1) >= 0) {
            return "it stands there more than once";
        }
        for (int i = at; i < at + sentence.length(); i++) {
            named.get(part)[i] = true;
        }
        return null;
    }

    /** What no test was named for. */
    public String left() {
        StringBuilder all = new StringBuilder();
        for (int part : parts.keySet()) {
            StringBuilder left = new StringBuilder();
            for (int i = 0; i < parts.get(part).length(); i++) {
                left.append(named.get(part)[i] ? '\n' : parts.get(part).charAt(i));
            }
            for (String piece : left.toString().split("\n+")) {
                if (piece.matches(".*[A-Za-z0-9].*")) {
                    all.append("    part ").append(part).append(": ").append(piece.strip()).append('\n');
                }
            }
        }
        return all.toString();
    }
}
