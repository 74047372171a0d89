import java.io.IOException;
import java.lang.reflect.Constructor;
import java.lang.reflect.Field;
import java.lang.reflect.Method;
import java.lang.reflect.Modifier;
import java.nio.file.Files;
import java.nio.file.Path;
import java.util.Arrays;
import java.util.List;
import java.util.Set;
import java.util.TreeSet;
import java.util.regex.Matcher;
import java.util.regex.Pattern;
import java.util.stream.Collectors;

/**
 * "The public face" of the document, line by line, against the class as it was compiled; and rules 1, 5, 11 of
 * LANGUAGE.md that speak of members. It is run at the project's root.
 */
public final class FaceTest {
    private static final Path DOC = Path.of("../shared/DOC.md");

    private static int wrong = 0;

    public static void main(String[] args) throws IOException {
        if (Files.isReadable(DOC)) {
            againstDocument();
        } else {
            System.out.println("no " + DOC + " here: the face was not looked up");
        }
        need(face(BubbleLeases.class).size() == 45, "a constant, a constructor and 43 methods are open");
        need(Modifier.toString(BubbleLeases.class.getModifiers()).equals("public final"), "the class is public final");
        need(BubbleLeases.NONE == -1, "NONE is -1");
        need(BubbleLeases.class.getPackageName().isEmpty(), "there is no package");
        need(BubbleLeases.class.getSuperclass() == Object.class, "the class is of no other's kind");
        need(BubbleLeases.class.getInterfaces().length == 0, "the class has no interfaces");
        for (Class<?> inside : BubbleLeases.class.getDeclaredClasses()) {
            int modifiers = inside.getModifiers();
            need(Modifier.isStatic(modifiers), inside + " is static");
            need(!Modifier.isPublic(modifiers) && !Modifier.isProtected(modifiers), inside + " is not open");
            fields(inside);
            twins(inside);
        }
        need(BubbleLeases.class.getDeclaredClasses().length <= 11, "there are twelve classes at the most");
        fields(BubbleLeases.class);
        twins(BubbleLeases.class);
        System.out.println(face(BubbleLeases.class).size() + " members of the face, " + wrong + " places not as due");
        if (wrong != 0) {
            System.exit(1);
        }
    }

    private static void againstDocument() throws IOException {
        Set<String> due = dueFace();
        Set<String> got = face(BubbleLeases.class);
        for (String line : due) {
            need(got.contains(line), "the document's face has, the class has not: " + line);
        }
        for (String line : got) {
            need(due.contains(line), "the class has, the document's face has not: " + line);
        }
        parameterNames();
    }

    private static void need(boolean right, String what) {
        if (!right) {
            wrong++;
            System.out.println("not as due: " + what);
        }
    }

    /** What the document writes, without the names of parameters and without values. */
    private static Set<String> dueFace() throws IOException {
        Set<String> all = new TreeSet<>();
        for (String line : faceLines()) {
            String bare = line.replaceFirst(" = .*", "").replaceFirst(";$", "");
            all.add(bare.replaceAll("\\b(int|long) \\w+(?=[,)])", "$1"));
        }
        return all;
    }

    private static List<String> faceLines() throws IOException {
        String doc = Files.readString(DOC);
        String face = doc.substring(doc.indexOf("## The public face"), doc.indexOf("## Terms"));
        return face.lines().map(String::strip)
                .filter(line -> line.startsWith("public ") && line.endsWith(";")).collect(Collectors.toList());
    }

    /** All members that are not private, as the document would write them. */
    private static Set<String> face(Class<?> type) {
        Set<String> all = new TreeSet<>();
        for (Field field : type.getDeclaredFields()) {
            if (isOpen(field.getModifiers(), field.isSynthetic())) {
                all.add(Modifier.toString(field.getModifiers()) + " " + field.getType().getSimpleName() + " " + field.getName());
            }
        }
        for (Constructor<?> made : type.getDeclaredConstructors()) {
            if (isOpen(made.getModifiers(), made.isSynthetic())) {
                all.add(Modifier.toString(made.getModifiers()) + " " + type.getSimpleName()
                        + list(made.getParameterTypes()) + thrown(made.getExceptionTypes()));
            }
        }
        for (Method method : type.getDeclaredMethods()) {
            if (isOpen(method.getModifiers(), method.isSynthetic())) {
                all.add(Modifier.toString(method.getModifiers()) + " " + method.getReturnType().getSimpleName() + " "
                        + method.getName() + list(method.getParameterTypes()) + thrown(method.getExceptionTypes()));
            }
        }
        return all;
    }

    private static boolean isOpen(int modifiers, boolean synthetic) {
        return !Modifier.isPrivate(modifiers) && !synthetic;
    }

    private static String list(Class<?>[] types) {
        return Arrays.stream(types).map(Class::getSimpleName).collect(Collectors.joining(", ", "(", ")"));
    }

    private static String thrown(Class<?>[] types) {
        return types.length == 0 ? ""
                : Arrays.stream(types).map(Class::getSimpleName).collect(Collectors.joining(", ", " throws ", ""));
    }

    /** Names are not kept by the compiler, so they are looked up in the text of the class. */
    private static void parameterNames() throws IOException {
        String text = Files.readString(Path.of("src/main/java/BubbleLeases.java")).replaceAll("\\s+", " ");
        for (String line : faceLines()) {
            Matcher head = Pattern.compile("public (?:int|long) (\\w+)(\\(.*?\\))(.*);").matcher(line);
            if (head.matches()) {
                need(text.contains("public " + line.substring(7, line.length() - 1) + " {"), "in the class: " + line);
            }
        }
    }

    /** Rule 5: static fields are final; rule 11: some twenty fields beside constants. */
    private static void fields(Class<?> type) {
        int own = 0;
        for (Field field : type.getDeclaredFields()) {
            int modifiers = field.getModifiers();
            need(!Modifier.isStatic(modifiers) || Modifier.isFinal(modifiers), field + " is final");
            own += Modifier.isStatic(modifiers) ? 0 : 1;
        }
        need(own <= 20, type + " has " + own + " fields");
    }

    /** Rule 1: no method that is not of the face bears the name of one that is. Rule 11: seven parameters. */
    private static void twins(Class<?> type) {
        Set<String> names = new TreeSet<>();
        for (Method method : BubbleLeases.class.getDeclaredMethods()) {
            if (Modifier.isPublic(method.getModifiers())) {
                names.add(method.getName());
            }
        }
        for (Method method : type.getDeclaredMethods()) {
            boolean face = type == BubbleLeases.class && Modifier.isPublic(method.getModifiers());
            need(face || !names.contains(method.getName()), method + " bears a name of the face");
            need(face || !Modifier.isPublic(method.getModifiers()), method + " is not public");
            need(method.getName().equals("would") || method.getParameterCount() <= 7, method + " takes seven at the most");
        }
    }
}
