import java.util.ArrayList;
import java.util.List;
import java.util.NoSuchElementException;

/**
 * What the suites of edges share. Each check stands under a promise and a sentence of it (says), which must stand in
 * the document. What a refused call must leave is looked at by twins: two objects made alike, one of them asked.
 */
public abstract class Edge {
    public interface Make {
        BubbleLeases make();
    }

    public interface Ask {
        long ask(BubbleLeases x);
    }

    public interface Probe {
        long ask(BubbleLeases x, int value);
    }

    /** Takes a text into an object, as a CORNER, LAW, WORK or BOOK. */
    public interface Take {
        int take(BubbleLeases x, String text);
    }

    protected static final int NONE = -1;
    protected static final int MIN = Integer.MIN_VALUE;
    protected static final int MAX = Integer.MAX_VALUE;

    /** All that a CORNER can hold: 8 VIEWS of WORTH 60 and 5 TENANTS, all at 50. */
    protected static final String FULL = "view 50 60;".repeat(8) + "tenant 99 50;".repeat(5);
    protected static final String FULL_WORK = "blow 0 1;blow 1 1;blow 2 1;blow 3 1;blow 4 1;";

    /** A hundred BREATHS. */
    protected static final String HUNDRED = "again 10[again 10[breath;];];";

    private static Doc doc = null;
    private static String sentence = null;
    private static int checksAhead = 0;

    static void begin(Doc theDoc) {
        doc = theDoc;
    }

    /** All checks from here on are for this sentence of a promise, or of the Terms. */
    protected static void says(int part, String words) {
        endSentence();
        String where = part == Doc.TERMS ? "Terms" : part == Doc.WHAT_IT_IS ? "What it is" : "promise " + part;
        sentence = where + ", \"" + words + "\": ";
        Bench.under("");
        String wrong = doc.name(part, words);
        Bench.due(sentence + (wrong == null ? "stands there once" : wrong), wrong == null ? 1 : 0, 1);
        Bench.under(sentence);
        checksAhead = Bench.checks();
    }

    static void endSentence() {
        if (sentence != null) {
            Bench.due("has checks of its own", Bench.checks() > checksAhead ? 1 : 0, 1);
        }
        Bench.under("");
        sentence = null;
    }

    protected static void due(String what, long got, long want) {
        Bench.due(what, got, want);
    }

    protected static void answers(String what, int[] got, int... want) {
        Bench.answers(what, got, want);
    }

    // ---- objects

    protected static BubbleLeases fresh() {
        return new BubbleLeases();
    }

    protected static BubbleLeases at(String corner) {
        BubbleLeases x = new BubbleLeases();
        Bench.corner(x, corner);
        return x;
    }

    /** Three TENANTS, four VIEWS. */
    protected static BubbleLeases three() {
        return at(Bench.CORNER);
    }

    protected static BubbleLeases after(String corner, String... works) {
        BubbleLeases x = at(corner);
        for (String work : works) {
            if (Bench.work(x, work) < 0) {
                due("a work without a fault: " + work, 0, 1);
            }
        }
        return x;
    }

    protected static BubbleLeases full() {
        return after(FULL, FULL_WORK);
    }

    /**
     * An object in which nothing is as it is at first: BREATH 2; BUBBLES 8 at 12 and 4 at 24 of AGE 2, 3 at 80 of AGE 0;
     * a LAW, a BOOK of two lines, three WORKS, two IMAGES, bytes on the TAPE, a FAULT, refusals.
     */
    protected static BubbleLeases rich() {
        BubbleLeases x = at(Bench.CORNER);
        Bench.law(x, "soap * 3 - size / 3 + walls");
        Bench.book(x, "1 1;3 5;");
        Bench.work(x, "blow 0 8;blow 1 4;breath;");
        x.image();
        Bench.work(x, "blow 2 1;east 10;west 10;run 2 80;sell 2 0 1;breath;");
        x.image();
        Bench.work(x, "blow 2 3;keep 2;");
        Bench.law(x, "1+");
        thrown(x, y -> y.lasts(9));
        thrown(x, y -> y.told(-1));
        thrown(x, y -> y.told(12));
        Bench.feed(x, "soap 7;view 1 1;");
        return x;
    }

    // ---- all that can be asked, so that two objects can be held against each other

    protected static void same(String what, BubbleLeases x, BubbleLeases y) {
        List<Long> one = everything(x);
        List<Long> two = everything(y);
        int differs = one.size() == two.size() ? NONE : Math.min(one.size(), two.size());
        for (int i = Math.min(one.size(), two.size()) - 1; i >= 0; i--) {
            differs = one.get(i).equals(two.get(i)) ? differs : i;
        }
        due(what + " leaves all as it was (else: the first that differs)", differs, NONE);
    }

    /** What is there, what can be undone, the IMAGES and the TAPE; they are used up by it. */
    private static List<Long> everything(BubbleLeases x) {
        List<Long> all = new ArrayList<>();
        surface(x, all);
        unwound(x, all);
        for (int left = 0; left >= 0;) {
            left = x.restore();
            all.add((long) left);
            if (left >= 0) {
                changing(x, all);
                unwound(x, all);
            }
        }
        all.add((long) x.corner(Math.min(16, x.count(1))));
        all.add((long) x.told(2));
        all.add((long) x.told(0));
        return all;
    }

    private static void surface(BubbleLeases x, List<Long> all) {
        all.add((long) x.fault());
        for (int what = 0; what < 12; what++) {
            all.add((long) x.told(what));
        }
        for (int what = 0; what < 3; what++) {
            all.add((long) x.count(what));
        }
        int views = x.told(0);
        for (int v = 0; v < views; v++) {
            for (int what = 0; what < 4; what++) {
                all.add((long) x.view(v, what));
            }
        }
        changing(x, all);
        for (int size = 1; size <= 20; size += 6) {
            all.add((long) x.would(size, 3, 2, 50, 20, 7, 5, 1));
        }
        for (int what = 0; what < 2; what++) {
            all.add((long) x.fits(what));
            all.add((long) x.look(what));
        }
    }

    /** All that WORK changes. */
    protected static List<Long> changing(BubbleLeases x) {
        List<Long> all = new ArrayList<>();
        changing(x, all);
        return all;
    }

    private static void changing(BubbleLeases x, List<Long> all) {
        for (int what = 3; what < 8; what++) {
            all.add((long) x.told(what));
        }
        int tenants = x.told(1);
        for (int t = 0; t < tenants; t++) {
            all.add((long) x.tenant(t, 0));
            all.add((long) x.tenant(t, 1));
            for (int what = 0; what < 3; what++) {
                all.add((long) x.bubble(t, what));
            }
        }
    }

    private static void unwound(BubbleLeases x, List<Long> all) {
        for (int left = 0; left >= 0;) {
            left = x.undo();
            all.add((long) left);
            if (left >= 0) {
                changing(x, all);
            }
        }
    }

    // ---- refusals

    /** The exception's name, or none. */
    protected static String thrown(BubbleLeases x, Ask ask) {
        try {
            ask.ask(x);
            return "nothing";
        } catch (NoSuchElementException e) {
            return e.getClass() == NoSuchElementException.class ? "NoSuchElementException" : e.getClass().getName();
        } catch (IllegalArgumentException e) {
            return e.getClass() == IllegalArgumentException.class ? "IllegalArgumentException" : e.getClass().getName();
        }
    }

    private static void refused(String what, Make make, Ask ask, String exception, int kind) {
        BubbleLeases x = make.make();
        BubbleLeases y = make.make();
        String got = thrown(x, ask);
        due(what + " throws " + exception + " (it threw " + got + ")", got.equals(exception) ? 1 : 0, 1);
        due(what + " is counted by status(" + kind + ")", x.status(kind), y.status(kind) + 1);
        due(what + " is not counted by the other status", x.status(1 - kind), y.status(1 - kind));
        same(what, x, y);
    }

    protected static void noSuch(String what, Make make, Ask ask) {
        refused(what, make, ask, "NoSuchElementException", 0);
    }

    protected static void wrong(String what, Make make, Ask ask) {
        refused(what, make, ask, "IllegalArgumentException", 1);
    }

    protected static void allowed(String what, Make make, Ask ask) {
        String got = thrown(make.make(), ask);
        due(what + " is allowed (it threw " + got + ")", got.equals("nothing") ? 1 : 0, 1);
    }

    /** Both ends of a range are allowed; what is beyond them is IllegalArgumentException. */
    protected static void range(String what, int least, int most, Probe probe) {
        for (int value : new int[] {least, most}) {
            allowed(what + " of " + value, Edge::rich, x -> probe.ask(x, value));
        }
        for (int value : new int[] {least - 1, most + 1, MIN, MAX}) {
            wrong(what + " of " + value, Edge::rich, x -> probe.ask(x, value));
        }
    }

    private static void elements(String what, Make make, int many, Probe probe) {
        if (many > 0) {
            allowed(what + " of 0", make, x -> probe.ask(x, 0));
            allowed(what + " of " + (many - 1), make, x -> probe.ask(x, many - 1));
        }
        for (int value : new int[] {many, -1, MIN, MAX}) {
            noSuch(what + " of " + value + " among " + many, make, x -> probe.ask(x, value));
        }
    }

    /** The last VIEW that is told and the first that isn't, where there are none, some, and all that there can be. */
    protected static void views(String what, Probe probe) {
        elements(what, Edge::fresh, 0, probe);
        elements(what, Edge::rich, 4, probe);
        elements(what, Edge::full, 8, probe);
    }

    protected static void tenants(String what, Probe probe) {
        elements(what, Edge::fresh, 0, probe);
        elements(what, Edge::rich, 3, probe);
        elements(what, Edge::full, 5, probe);
    }

    // ---- texts

    protected static void faulty(Make make, Take take, String text, int kind, int place) {
        BubbleLeases x = make.make();
        Bench.faulty(x, "'" + text + "'", take.take(x, text), kind, place);
    }

    protected static void right(Make make, Take take, String text, int want) {
        BubbleLeases x = make.make();
        due("'" + text + "'", take.take(x, text), want);
        due("fault() behind '" + text + "'", x.fault(), NONE);
    }

    /** A number in a text: both ends are right, what is beyond is a FAULT 2 at its first byte, however long it is. */
    protected static void number(Make make, Take take, String ahead, int least, int most, String behind) {
        for (int value : new int[] {least, most}) {
            BubbleLeases x = make.make();
            due("'" + ahead + value + behind + "' is right", take.take(x, ahead + value + behind) >= 0 ? 1 : 0, 1);
        }
        // 2 to the 32nd and to the 64th and the least: what an int or a long that wraps would take for the least.
        String[] none = {String.valueOf(most + 1), String.valueOf(4294967296L + least), least == 0
            ? "18446744073709551616" : "18446744073709551617", "9".repeat(40), least > 0 ? String.valueOf(least - 1) : "999"};
        for (String value : none) {
            if (most < 999 || !value.equals("999")) {
                faulty(make, take, ahead + value + behind, 2, ahead.length());
            }
        }
        faulty(make, take, ahead + "-1" + behind, 1, ahead.length());
        if (!ahead.isEmpty()) {
            faulty(make, take, ahead, 1, ahead.length());
        }
    }
}
