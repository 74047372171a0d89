/** What the tests of the promises share: answers held against what is due, texts fed, refusals counted. */
public final class Bench {
    public interface Call {
        long answer();
    }

    /** Three TENANTS and four VIEWS that most tests stand on; LIFE is 6 - S / 2 + walls here. */
    public static final String CORNER =
            "view 10 5;view 20 9;view 50 20;view 95 3;tenant 20 12;tenant 5 24;tenant 9 90;soap 3;";

    private static int checks = 0;
    private static int wrong = 0;
    private static String head = "";

    private Bench() {
    }

    public static void due(String what, long got, long want) {
        checks++;
        if (got != want) {
            wrong++;
            System.out.println(head + what + " answered " + got + ", due is " + want);
        }
    }

    /** What stands ahead of each wrong answer from now on. */
    public static void under(String heading) {
        head = heading;
    }

    public static int checks() {
        return checks;
    }

    public static void answers(String name, int[] got, int... due) {
        due(name + " has as many", got.length, due.length);
        for (int i = 0; i < due.length; i++) {
            due(name + " " + i, got[i], due[i]);
        }
    }

    public static void noSuch(BubbleLeases x, String what, Call call) {
        refused(x, what, call, java.util.NoSuchElementException.class, 0);
    }

    public static void wrongArgument(BubbleLeases x, String what, Call call) {
        refused(x, what, call, IllegalArgumentException.class, 1);
    }

    private static void refused(BubbleLeases x, String what, Call call, Class<?> due, int kind) {
        int before = x.status(kind);
        int other = x.status(1 - kind);
        Class<?> got = null;
        try {
            call.answer();
        } catch (RuntimeException e) {
            got = e.getClass();
        }
        due(what + " throws " + due.getSimpleName() + " (it threw " + got + ")", got == due ? 1 : 0, 1);
        due("status(" + kind + ") behind " + what, x.status(kind), before + 1);
        due("status(" + (1 - kind) + ") behind " + what, x.status(1 - kind), other);
    }

    public static void feed(BubbleLeases x, String text) {
        for (int at = 0; at < text.length(); at += 20) {
            int[] five = new int[5];
            for (int i = 0; i < 20; i++) {
                int c = at + i < text.length() ? text.charAt(at + i) : 0;
                five[i / 4] = five[i / 4] << 8 | c;
            }
            x.feed(five[0], five[1], five[2], five[3], five[4]);
        }
    }

    public static int corner(BubbleLeases x, String text) {
        feed(x, text);
        return x.corner(text.length());
    }

    public static int law(BubbleLeases x, String text) {
        feed(x, text);
        return x.law(text.length());
    }

    public static int work(BubbleLeases x, String text) {
        feed(x, text);
        return x.work(text.length());
    }

    public static int book(BubbleLeases x, String text) {
        feed(x, text);
        return x.book(text.length());
    }

    /** A new object whose CORNER is told. */
    public static BubbleLeases at(String corner) {
        BubbleLeases x = new BubbleLeases();
        due("corner " + corner, corner(x, corner) >= 0 ? 1 : 0, 1);
        return x;
    }

    /** A new object whose CORNER is told and whose WORK, which has no FAULT, is done. */
    public static BubbleLeases after(String corner, String work) {
        BubbleLeases x = at(corner);
        due("work " + work, work(x, work) >= 0 ? 1 : 0, 1);
        return x;
    }

    /** A text that is no text: the FAULT, its place, and the TAPE empty behind it. */
    public static void faulty(BubbleLeases x, String what, int answer, int kind, int place) {
        due(what + " as a fault", answer, kind - 10);
        due("fault() behind " + what, x.fault(), place);
        due("count(1) behind " + what, x.count(1), 0);
    }

    public static void end() {
        System.out.println(checks + " answers looked at, " + wrong + " not as due");
        if (wrong != 0 || checks == 0) {
            System.exit(1);
        }
    }
}
