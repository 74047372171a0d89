import java.lang.reflect.InvocationTargetException;
import java.lang.reflect.Method;
import java.util.ArrayList;
import java.util.Comparator;
import java.util.List;
import java.util.Random;

/** Random runs of calls, at most 512 each, held against the model; every call's answer or exception must be the same. */
public final class RandomRunsTest {
    private static final int RUNS = 1200;
    private static final int CALLS = 512;
    private static final String[] NAMES = {"size", "soap", "walls", "place", "worth", "breath", "blown", "tenant"};

    private final Random random;
    private final Object[] both;
    private final List<String> told = new ArrayList<>();
    private int calls = 0;

    private RandomRunsTest(long seed) {
        random = new Random(seed);
        both = new Object[] {new BubbleLeases(), new Model()};
    }

    public static void main(String[] args) {
        List<Method> face = new ArrayList<>();
        for (Method m : BubbleLeases.class.getDeclaredMethods()) {
            if (java.lang.reflect.Modifier.isPublic(m.getModifiers())) {
                face.add(m);
            }
        }
        face.sort(Comparator.comparing(Method::getName));
        if (face.size() != 43) {
            System.out.println("the face has " + face.size() + " methods, due are 43");
            System.exit(1);
        }
        int runs = args.length > 0 ? Integer.parseInt(args[0]) : RUNS;
        long from = args.length > 1 ? Long.parseLong(args[1]) : 1;
        for (long seed = from; seed < from + runs; seed++) {
            RandomRunsTest run = new RandomRunsTest(seed);
            if (!run.goes(face)) {
                System.out.println("run by seed " + seed + ":");
                run.told.forEach(System.out::println);
                System.exit(1);
            }
        }
        System.out.println(runs + " random runs are as due");
    }

    private int below(int n) {
        return random.nextInt(n);
    }

    private boolean goes(List<Method> face) {
        if (!text("corner", cornerText())) {
            return false;
        }
        while (calls < CALLS) {
            int kind = below(100);
            boolean same;
            if (kind < 2) {
                same = text("corner", spoilt(cornerText()));
            } else if (kind < 8) {
                same = text("law", spoilt(sum(0)));
            } else if (kind < 26) {
                same = text("work", spoilt(steps(0, 1 + below(9))));
            } else if (kind < 31) {
                same = text("book", spoilt(bookText()));
            } else {
                same = call(face.get(below(face.size())));
            }
            if (!same) {
                return false;
            }
        }
        return true;
    }

    // ---- texts

    private String blanks() {
        return below(6) == 0 ? " ".repeat(below(3)) : "";
    }

    private String number(int least, int most) {
        int kind = below(400);
        if (kind == 0) {
            return String.valueOf(most + 1);
        }
        if (kind == 1) {
            return "99999999999";
        }
        int value = kind < 40 ? (below(2) == 0 ? least : most) : least + below(Math.max(1, most - least + 1));
        return blanks() + (below(20) == 0 ? "00" : "") + value;
    }

    private String cornerText() {
        StringBuilder s = new StringBuilder();
        int clauses = below(30) == 0 ? 58 + below(5) : below(3) == 0 ? below(15) : 8 + below(6);
        boolean many = below(25) == 0;
        int views = 0;
        int tenants = 0;
        for (int i = 0; i < clauses; i++) {
            int kind = below(5);
            if (kind < 2 && (many || views < 8)) {
                views++;
                s.append(blanks()).append("view ").append(number(0, 99)).append(' ').append(number(0, 60));
            } else if (kind < 4 && (many || tenants < 5)) {
                tenants++;
                s.append(blanks()).append("tenant ").append(number(0, 99)).append(' ').append(number(0, 99));
            } else {
                s.append(blanks()).append("soap").append(number(1, 20));
            }
            s.append(blanks()).append(";");
        }
        return s.append(blanks()).toString();
    }

    private String sum(int deep) {
        StringBuilder s = new StringBuilder(product(deep));
        for (int i = below(3); i > 0; i--) {
            s.append(blanks()).append("+-".charAt(below(2))).append(product(deep));
        }
        return s.toString();
    }

    private String product(int deep) {
        StringBuilder s = new StringBuilder(unit(deep));
        for (int i = below(3); i > 0; i--) {
            s.append(blanks()).append("*/%".charAt(below(3))).append(unit(deep));
        }
        return s.toString();
    }

    private String unit(int deep) {
        int kind = below(deep > 7 ? 6 : 9);
        if (kind < 2) {
            return number(0, below(2) == 0 ? 999 : 20);
        }
        if (kind < 6) {
            return blanks() + NAMES[below(8)];
        }
        if (kind < 7) {
            return blanks() + "(" + sum(deep + 1) + blanks() + ")";
        }
        return blanks() + (kind == 7 ? "least" : "most") + blanks() + "[" + unit(deep + 1) + blanks() + "," + unit(deep + 1) + "]";
    }

    private int tenants() {
        return ((Model) both[1]).told(1);
    }

    private String steps(int deep, int many) {
        StringBuilder s = new StringBuilder();
        int last = tenants() - 1;
        for (int i = 0; i < many; i++) {
            s.append(blanks());
            switch (below(12)) {
                case 0, 1, 2 -> s.append("blow ").append(number(0, last)).append(' ').append(number(1, 20));
                case 3 -> s.append("east ").append(number(1, 20));
                case 4 -> s.append("west ").append(number(1, 20));
                case 5 -> s.append("run").append(number(0, last)).append(' ').append(number(0, 99));
                case 6 -> s.append("sell").append(number(0, last)).append(' ').append(number(0, last)).append(' ')
                        .append(number(0, below(2) == 0 ? 99 : 9));
                case 7, 8 -> s.append("keep").append(number(0, last));
                case 9, 10 -> s.append("breath");
                default -> {
                    String body = deep > 7 ? "" : steps(deep + 1, below(4));
                    s.append("again ").append(number(0, 30)).append(blanks()).append("[").append(body).append("]");
                }
            }
            s.append(blanks()).append(";");
        }
        return s.toString();
    }

    private String bookText() {
        StringBuilder s = new StringBuilder();
        int views = ((Model) both[1]).told(0);
        for (int v = 0; v < views; v++) {
            if (below(3) == 0) {
                int said = below(2) == 0 ? ((Model) both[1]).view(v, 2) : below(6);
                int line = below(30) == 0 ? below(9) : v;
                s.append(blanks()).append(line).append(' ').append(said == -1 ? "5" : String.valueOf(said)).append(";");
            }
        }
        return s.toString();
    }

    private String spoilt(String text) {
        int kind = below(30);
        int at = text.isEmpty() ? 0 : below(text.length());
        String odd = " ;[](),+-*/%0123456789azviewsoap" + (char) 0 + (char) 200 + "{`/:A";
        char c = odd.charAt(below(odd.length()));
        if (kind == 0) {
            return text.substring(0, at);
        }
        if (kind == 1) {
            return text.substring(0, at) + c + text.substring(at);
        }
        if (kind == 2 && !text.isEmpty()) {
            return text.substring(0, at) + c + text.substring(at + 1);
        }
        if (kind == 3 && !text.isEmpty()) {
            return text.substring(0, at) + text.substring(at + 1);
        }
        return text;
    }

    private boolean text(String name, String whole) {
        String text = whole.length() > 600 ? whole.substring(0, 600) : whole;
        int had = ((Model) both[1]).count(1);
        for (int at = 0; at < text.length(); at += 20) {
            Object[] five = new Object[5];
            for (int i = 0; i < 5; i++) {
                int four = 0;
                for (int k = 0; k < 4; k++) {
                    int where = at + 4 * i + k;
                    four = four << 8 | (where < text.length() ? text.charAt(where) : 0);
                }
                five[i] = four;
            }
            if (!same("feed", five)) {
                return false;
            }
        }
        told.add("    text: " + text);
        int most = name.equals("corner") ? 600 : name.equals("book") ? 60 : 150;
        int n = had + text.length();
        // What is too long is cut now and then, so that the tape does not only fill up.
        return same(name, new Object[] {n > most && below(4) > 0 ? most : n}) && same("fault", new Object[0]);
    }

    // ---- calls

    private boolean call(Method m) {
        Object[] args = new Object[m.getParameterCount()];
        for (int i = 0; i < args.length; i++) {
            args[i] = argument(m.getName(), i);
        }
        return same(m.getName(), args);
    }

    private int argument(String name, int index) {
        int kind = below(60);
        if (kind == 0) {
            return new int[] {-1, Integer.MIN_VALUE, Integer.MAX_VALUE, 1000, 100, 21}[below(6)];
        }
        boolean first = index == 0;
        switch (name) {
            case "feed": return random.nextInt();
            case "corner", "law", "work", "book": return below(200) - 20;
            case "would": return new int[] {1 + below(20), 1 + below(20), below(5), below(100), below(481), below(401), below(1000), below(5)}[index];
            case "ahead": return first ? below(100) : below(3);
            case "pitch", "street", "lost": return first ? 1 + below(20) : below(name.equals("street") ? 9 : 2);
            case "offer": return first ? below(5) : 1 + below(20);
            case "stands", "mean": return index == 0 ? below(13) : index == 1 ? below(17) : below(2);
            case "sure": return below(1000);
            case "pay": return index == 2 ? below(3) : below(2) == 0 ? below(100) : below(10);
            case "sun": return index == 0 ? below(5) : index == 1 ? below(1 << Math.max(1, tenants())) : below(3) == 0 ? below(1000) : below(200);
            case "buyers": return first ? below(5) : below(3) == 0 ? below(100) : below(12);
            case "front": return index == 2 ? below(2) : below(100);
            case "afternoon": return new int[] {random.nextInt(), below(17), 1 + below(48), below(4)}[index];
            case "span": return new int[] {random.nextInt(), 1 + below(10), below(17), 1 + below(48), below(3), below(Math.max(1, tenants()))}[index];
            case "told": return below(12);
            case "view", "closest": return first ? below(8) : below(name.equals("view") ? 4 : 2);
            case "needs": return first ? below(5) : below(8);
            case "tenant", "bubble": return first ? below(5) : below(6);
            case "wall": return index == 2 ? below(2) : below(5);
            case "lasts", "terrace", "overlap", "affords": return below(5);
            case "status", "count": return below(4);
            default: return below(2);
        }
    }

    private boolean same(String name, Object[] args) {
        String got = answer(both[0], name, args);
        String want = answer(both[1], name, args);
        calls++;
        told.add(name + java.util.Arrays.toString(args) + " answered " + got + (got.equals(want) ? "" : ", due is " + want));
        return got.equals(want);
    }

    private static String answer(Object on, String name, Object[] args) {
        try {
            for (Method m : on.getClass().getDeclaredMethods()) {
                if (m.getName().equals(name) && m.getParameterCount() == args.length
                        && java.lang.reflect.Modifier.isPublic(m.getModifiers())) {
                    return String.valueOf(m.invoke(on, args));
                }
            }
            throw new AssertionError("no " + name);
        } catch (InvocationTargetException e) {
            return "throws." + e.getCause().getClass().getSimpleName();
        } catch (IllegalAccessException e) {
            throw new AssertionError(e);
        }
    }
}
