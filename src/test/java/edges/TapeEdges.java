import java.util.ArrayList;
import java.util.List;

/** Promises 1 to 8: a new object, the TAPE, the four texts, the FAULT, undo. */
final class TapeEdges extends Edge {
    static void run() {
        promise1();
        promise2();
        promise3();
        promise3Anew();
        promise3Stays();
        promise4();
        promise5();
        promise5Fault();
        promise5Full();
        promise6();
        promise7();
        promise8();
        object();
    }

    private static void promise1() {
        says(1, "A CORNER without CLAUSES.");
        BubbleLeases x = fresh();
        int[] due = {0, 0, 8, 0, 0, 0, 0, 0, 0, 0, 0, 0};
        for (int what = 0; what < due.length; what++) {
            due("told(" + what + ")", x.told(what), due[what]);
        }
        answers("nothing is there", new int[] {x.fault(), x.count(0), x.count(1), x.count(2), x.status(0), x.status(1)}, NONE, 0, 0, 0, 0, 0);
        due("no law", x.would(7, 8, 2, 0, 0, 0, 0, 0), 15);
        BubbleLeases y = fresh();
        y.corner(0);
        same("an empty corner", y, fresh());
        due("NONE", BubbleLeases.NONE, -1);
    }

    // ---- the TAPE

    private static int four(String text) {
        return text.charAt(0) << 24 | text.charAt(1) << 16 | text.charAt(2) << 8 | text.charAt(3);
    }

    private static void promise2() {
        says(2, "Twenty bytes come on the TAPE, of each number the highest first:");
        BubbleLeases x = fresh();
        x.feed(four("soap"), four(" 17;"), four("view"), four(" 5 6"), four(";  *"));
        due("all but the last byte", x.corner(19), 0);
        answers("what they say", new int[] {x.told(2), x.told(0), x.view(0, 0), x.view(0, 1)}, 17, 1, 5, 6);
        x.feed(four("soap"), four(" 17;"), four("view"), four(" 5 6"), four(";  *"));
        Bench.faulty(x, "the twentieth byte", x.corner(20), 1, 19);
        // Bytes from 128 on are bytes like others: no letters, digits or blanks, and none of them goes over into the next.
        for (int i = 0; i < 4; i++) {
            BubbleLeases y = fresh();
            y.feed(four("soap") | 128 << 8 * i, four(" 17;"), 0, 0, 0);
            Bench.faulty(y, "byte " + (3 - i) + " from 128 on", y.corner(8), 1, 0);
        }
        BubbleLeases z = fresh();
        z.feed(-1, MIN, MAX, 0, -1);
        Bench.faulty(z, "255", z.corner(20), 1, 0);
        z.feed(0x20202020, 0x202020ff, MIN, MAX, 0);
        Bench.faulty(z, "255 behind blanks", z.corner(20), 1, 7);

        says(2, "how many there are;");
        BubbleLeases y = fresh();
        for (int i = 1; i <= 30; i++) {
            due("feed " + i, y.feed(0, 0, 0, 0, 0), 20 * i);
            due("count(1) behind it", y.count(1), 20 * i);
        }

        says(2, "NONE, doing nothing, if there would be more than 600.");
        due("the 31st", y.feed(1, 2, 3, 4, 5), NONE);
        due("there are as many", y.count(1), 600);
        due("once more", y.feed(1, 2, 3, 4, 5), NONE);
        BubbleLeases whole = fresh();
        Bench.feed(whole, " ".repeat(592) + "soap 19;");
        due("a 31st", whole.feed(four("soap"), four("soap"), four("soap"), four("soap"), four("soap")), NONE);
        due("what was there is there", whole.corner(600), 0);
        due("and what it says", whole.told(2), 19);
        due("the empty tape takes more", whole.feed(0, 0, 0, 0, 0), 20);
        wrong("corner(601) of 600", () -> {
            BubbleLeases v = fresh();
            Bench.feed(v, " ".repeat(600));
            v.feed(1, 2, 3, 4, 5);
            return v;
        }, v -> v.corner(601));
    }

    // ---- CORNER

    private static void promise3() {
        says(3, "The first n bytes of the TAPE (empty then) are the CORNER");
        BubbleLeases x = fresh();
        Bench.feed(x, "soap 7;soap 8;soap 9");
        due("7 of 20", x.corner(7), 0);
        answers("7 bytes count, all are gone", new int[] {x.told(2), x.count(1)}, 7, 0);
        Bench.feed(x, "soap 7;soap 8;soap 9");
        due("none of 20", x.corner(0), 0);
        answers("none counts, all are gone", new int[] {x.told(2), x.count(1)}, 8, 0);
        due("none of none", x.corner(0), 0);
        Bench.feed(x, "soap 7;view 50 60;  ");
        due("20 of 20", x.corner(20), 0);
        answers("all count, all are gone", new int[] {x.told(2), x.told(0), x.count(1)}, 7, 1, 0);
        Bench.feed(x, "soap 7;soap 8;soap 9");
        Bench.faulty(x, "20 of 20 at fault: they are gone, too", x.corner(20), 1, 20);
        Bench.feed(x, "soapsoap 7;");
        Bench.faulty(x, "4 of them: a word ends where they do", x.corner(4), 1, 4);
        Bench.feed(x, "soap 77;");
        Bench.faulty(x, "6 of them: a number ends where they do", x.corner(6), 1, 6);
        Bench.feed(x, "soap 7;");
        Bench.faulty(x, "6 of them: without the sign", x.corner(6), 1, 6);
        Bench.feed(x, " ".repeat(596) + "soap");
        Bench.faulty(x, "a word up to the last of 600", x.corner(600), 1, 600);
        Bench.feed(x, " ".repeat(594) + "soap 7");
        Bench.faulty(x, "a number up to the last of 600", x.corner(600), 1, 600);

        says(3, "how many TENANTS;");
        int[] due = {0, 1, 5};
        for (int many : due) {
            due("so many", Bench.corner(fresh(), "tenant 5 5;".repeat(many) + "view 5 5;view 6 6;"), many);
        }

        says(3, "IllegalArgumentException: n is not 0 to the TAPE's bytes (it stays).");
        for (int n : new int[] {-1, 21, 600, 601, MIN, MAX}) {
            wrong("corner(" + n + ") of 20", Edge::rich, y -> y.corner(n));
        }
        allowed("corner(20) of 20", Edge::rich, y -> y.corner(20));
        allowed("corner(0) of 20", Edge::rich, y -> y.corner(0));
        wrong("corner(1) of none", Edge::fresh, y -> y.corner(1));
        wrong("corner(-1) of none", Edge::fresh, y -> y.corner(-1));
    }

    private static void promise3Anew() {
        says(3, "(no LAW, BOOK, IMAGES, nothing to undo):");
        BubbleLeases x = rich();
        x.law(0);
        due("the same corner anew", Bench.corner(x, Bench.CORNER), 3);
        same("a new corner", x, at(Bench.CORNER));
        BubbleLeases y = rich();
        due("an empty one", y.corner(0), 0);
        answers("all is gone", new int[] {y.count(0), y.count(2), y.undo(), y.restore(), y.told(9), y.told(10), y.would(7, 8, 2, 0, 0, 0, 0, 0)},
                0, 0, NONE, NONE, 0, 0, 15);
        BubbleLeases full = at(Bench.CORNER);
        for (int i = 0; i < 16; i++) {
            full.work(0);
        }
        full.image();
        full.image();
        full.image();
        Bench.corner(full, Bench.CORNER);
        answers("room for all again", new int[] {full.work(0), full.image(), full.count(2), full.count(0)}, 0, 1, 1, 1);
    }

    /** A LAW of no bytes is at FAULT at 0 and empties the TAPE, so that twins can be held against each other. */
    private static BubbleLeases plain(BubbleLeases x) {
        x.law(0);
        return x;
    }

    /** A text at FAULT leaves all but the TAPE and the place of the FAULT. */
    private static void stays(Take take, String... texts) {
        for (String text : texts) {
            BubbleLeases x = plain(rich());
            due("'" + text + "' is at fault", take.take(x, text) < 0 ? 1 : 0, 1);
            due("'" + text + "' empties the tape", x.count(1), 0);
            same("'" + text + "'", plain(x), plain(rich()));
        }
    }

    private static void promise3Stays() {
        says(3, "or the FAULT less 10 (all stays).");
        due("1 less 10", Bench.corner(fresh(), "soaps"), -9);
        due("2 less 10", Bench.corner(fresh(), "soap 0;"), -8);
        due("3 less 10", Bench.corner(fresh(), "view 0 0;".repeat(9)), -7);
        stays(Bench::corner, "soaps", "soap 0;", "view 0 0;".repeat(9), "soap 9;view 5 5;tenant 5 5;view 5",
                "tenant 1 1;tenant 1 1;tenant 1 1;tenant 1 1;tenant 1 1;x");
    }

    // ---- LAW

    private static void promise4() {
        says(4, "Likewise the LAW (n to 150): 1.");
        BubbleLeases x = fresh();
        Bench.feed(x, "7+8+9+9+9+9+9+9+9+9+");
        due("3 of 20", x.law(3), 1);
        answers("3 bytes count, all are gone", new int[] {x.would(1, 1, 0, 0, 0, 0, 0, 0), x.count(1)}, 15, 0);
        due("less 10", Bench.law(x, "7+"), -9);
        Bench.feed(x, "sizesize");
        answers("a word ends where they do", new int[] {x.law(4), x.would(13, 1, 0, 0, 0, 0, 0, 0)}, 1, 13);
        Bench.feed(x, "1555");
        answers("a number ends where they do", new int[] {x.law(2), x.would(1, 1, 0, 0, 0, 0, 0, 0)}, 1, 15);
        due("less 10", Bench.law(x, "1000"), -8);
        due("less 10", Bench.law(x, "((((((("), -7);
        due("it stays", x.would(1, 1, 0, 0, 0, 0, 0, 0), 15);
        due("another one", Bench.law(x, "9"), 1);
        due("the latest counts", x.would(1, 1, 0, 0, 0, 0, 0, 0), 9);
        stays(Bench::law, "7+", "1000", "(((((((", "7+8)", "7 8");
        Make make = () -> {
            BubbleLeases y = rich();
            Bench.feed(y, " ".repeat(160));
            return y;
        };
        for (int n : new int[] {-1, 151, 180, 181, MIN, MAX}) {
            wrong("law(" + n + ") of 180", make, y -> y.law(n));
        }
        allowed("law(150) of 180", make, y -> y.law(150));
        allowed("law(0) of 180", make, y -> y.law(0));
        wrong("law(21) of 20", Edge::rich, y -> y.law(21));
        allowed("law(20) of 20", Edge::rich, y -> y.law(20));
        BubbleLeases z = plain(rich());
        Bench.law(z, "9");
        answers("bubbles, book, images, works stay", new int[] {z.told(4), z.told(9), z.count(0), z.count(2), z.told(10)}, 7, 2, 2, 3, 1);
    }

    // ---- WORK

    private static void promise5() {
        says(5, "Likewise WORK (n to 150), which is done:");
        BubbleLeases x = at(Bench.CORNER);
        Bench.feed(x, "blow 0 5;blow 1 5;bl");
        due("9 of 20", x.work(9), 1);
        answers("9 bytes count, all are gone", new int[] {x.told(4), x.count(1)}, 1, 0);
        Bench.feed(x, "breathbreath;");
        Bench.faulty(x, "a word ends where they do", x.work(6), 1, 6);
        Bench.feed(x, "keep 11;");
        Bench.faulty(x, "a number ends where they do", x.work(6), 1, 6);
        Make make = () -> {
            BubbleLeases y = rich();
            Bench.feed(y, " ".repeat(160));
            return y;
        };
        for (int n : new int[] {-1, 151, 180, 181, MIN, MAX}) {
            wrong("work(" + n + ") of 180", make, y -> y.work(n));
        }
        allowed("work(150) of 180", make, y -> y.work(150));
        allowed("work(0) of 180", make, y -> y.work(0));
        wrong("work(21) of 20", Edge::rich, y -> y.work(21));
        allowed("work(20) of 20", Edge::rich, y -> y.work(20));

        says(5, "how many STEPS were done (agains not counted, nor REFUSED ones);");
        right(Edge::three, Bench::work, "", 0);
        right(Edge::three, Bench::work, "breath;", 1);
        right(Edge::three, Bench::work, "again 5[];", 0);
        right(Edge::three, Bench::work, "again 5[again 1[];];", 0);
        right(Edge::three, Bench::work, "again 5[breath;];", 5);
        right(Edge::three, Bench::work, "keep 0;east 1;", 0);
        right(Edge::three, Bench::work, "again 3[blow 0 1;breath;];", 4);
    }

    private static void promise5Fault() {
        says(5, "or the FAULT less 10 (none is);");
        due("1 less 10", Bench.work(at(Bench.CORNER), "breath"), -9);
        due("2 less 10", Bench.work(at(Bench.CORNER), "east 0;"), -8);
        due("3 less 10", Bench.work(at(Bench.CORNER), "again 1[".repeat(7)), -7);
        stays(Bench::work, "breath;breath", "breath;keep 0;east 0;", "breath;" + "again 1[".repeat(7), "keep 0;run 0 5;blow 5 5;", "breath;]");
    }

    private static BubbleLeases sixteen() {
        BubbleLeases x = at(Bench.CORNER);
        for (int i = 1; i <= 16; i++) {
            Bench.work(x, i == 16 ? "keep 0;" : i % 2 == 0 ? "" : "breath;");
        }
        Bench.law(x, "7+");
        return x;
    }

    private static void promise5Full() {
        says(5, "-20 ahead of that (nothing is read, there is no FAULT, the TAPE is empty then): 16 WORKS are there that were not undone.");
        BubbleLeases y = at(Bench.CORNER);
        for (int i = 1; i <= 16; i++) {
            due("work " + i + " of 16", y.work(0), 0);
        }
        due("work 17", y.work(0), -20);
        for (String text : new String[] {"", "breath;", "breathe;", "east 0;", "again 1[".repeat(7)}) {
            BubbleLeases x = sixteen();
            due("a fault ahead", x.fault(), 2);
            due("'" + text + "' when 16 are there", Bench.work(x, text), -20);
            answers("no fault, no tape, refused by the latest stay", new int[] {x.fault(), x.count(1), x.count(2), x.told(10)}, NONE, 0, 16, 1);
            same("'" + text + "' when 16 are there", plain(x), plain(sixteen()));
        }
        BubbleLeases x = sixteen();
        due("one is undone", x.undo(), 15);
        answers("then one more is done, and no more", new int[] {Bench.work(x, "breath;"), Bench.work(x, "breath;")}, 1, -20);
        x.image();
        x.undo();
        x.undo();
        due("two are undone", Bench.work(x, "breath;"), 1);
        x.restore();
        answers("16 are there again by an image", new int[] {x.count(2), Bench.work(x, "breath;")}, 16, -20);
    }

    // ---- BOOK

    private static void promise6() {
        says(6, "Likewise the BOOK (n to 60): how many lines.");
        BubbleLeases x = at(Bench.CORNER);
        Bench.feed(x, "0 5;1 5;2 5;3 5;0 5;");
        due("12 of 20", x.book(12), 3);
        answers("12 bytes count, all are gone", new int[] {x.told(9), x.count(1)}, 3, 0);
        due("less 10", Bench.book(x, "0"), -9);
        due("less 10", Bench.book(x, "0 6;"), -8);
        due("it stays", x.told(9), 3);
        Bench.feed(x, "0 55;");
        Bench.faulty(x, "a number ends where they do", x.book(3), 1, 3);
        due("another one is no more lines, but other ones", Bench.book(x, "3 1;"), 1);
        due("so told", x.told(9), 1);
        due("none", Bench.book(x, ""), 0);
        due("so told", x.told(9), 0);
        stays(Bench::book, "0", "0 6;", "0 5;0 5;", "2 5;1 5;4 5;", "0 5;x");
        Make make = () -> {
            BubbleLeases y = rich();
            Bench.feed(y, " ".repeat(60));
            return y;
        };
        for (int n : new int[] {-1, 61, 80, 81, MIN, MAX}) {
            wrong("book(" + n + ") of 80", make, y -> y.book(n));
        }
        allowed("book(60) of 80", make, y -> y.book(60));
        allowed("book(0) of 80", make, y -> y.book(0));
        wrong("book(21) of 20", Edge::rich, y -> y.book(21));
        BubbleLeases z = plain(rich());
        Bench.book(z, "0 0;");
        answers("bubbles, law, images, works stay", new int[] {z.told(4), z.would(6, 5, 0, 0, 0, 0, 0, 0), z.count(0), z.count(2), z.told(10)}, 7, 13, 2, 3, 1);
    }

    // ---- the FAULT

    private static void promise7() {
        says(7, "The place of the FAULT of the latest text;");
        BubbleLeases x = at(Bench.CORNER);
        Bench.corner(x, "soap 1;soap 0;");
        due("of a corner", x.fault(), 12);
        Bench.law(x, "7+");
        due("of a law", x.fault(), 2);
        Bench.work(x, "breath;x");
        due("of work", x.fault(), 7);
        Bench.book(x, "x");
        due("of a book, at 0", x.fault(), 0);
        Bench.law(x, "7 7");
        x.undo();
        x.image();
        x.restore();
        x.feed(1, 2, 3, 4, 5);
        thrown(x, y -> y.book(-1));
        thrown(x, y -> y.corner(21));
        thrown(x, y -> y.told(12));
        due("what is no text leaves it", x.fault(), 2);

        says(7, "NONE without.");
        due("no text at all", fresh().fault(), NONE);
        for (Ask ask : new Ask[] {y -> Bench.corner(y, "soap 1;"), y -> Bench.law(y, "7"), y -> Bench.work(y, "breath;"), y -> Bench.book(y, "")}) {
            BubbleLeases y = at(Bench.CORNER);
            Bench.law(y, "7+");
            ask.ask(y);
            due("behind a text without", y.fault(), NONE);
        }
        BubbleLeases full = sixteen();
        full.work(0);
        due("behind a work that is not read", full.fault(), NONE);
    }

    // ---- undo

    private static void promise8() {
        says(8, "The latest WORK that was done (of no STEPS, too) is undone:");
        BubbleLeases x = at(Bench.CORNER);
        String[] works = {"blow 0 1;run 1 30;", "", "breath;breath;keep 0;", "keep 9;", "sell 0 2 4;blow 0 1;", "east 20;east 20;east 20;east 20;east 20;"};
        List<List<Long>> states = new ArrayList<>();
        for (String work : works) {
            states.add(changing(x));
            if (Bench.work(x, work) < 0) {
                states.remove(states.size() - 1);
            }
        }
        due("one of six was at fault, and is none", states.size(), 5);
        for (int left = 4; left >= 0; left--) {
            x.undo();
            due("all is as it was ahead of work " + left, changing(x).equals(states.get(left)) ? 1 : 0, 1);
            due("none is refused now", x.told(10), 0);
        }
        BubbleLeases z = after(Bench.CORNER, "breath;");
        Bench.law(z, "9");
        Bench.book(z, "0 5;");
        z.undo();
        answers("laws and books are no work", new int[] {z.would(1, 1, 0, 0, 0, 0, 0, 0), z.told(9), z.told(3)}, 9, 1, 0);

        says(8, "how many are left;");
        BubbleLeases y = sixteen();
        for (int left = 15; left >= 0; left--) {
            due("undo", y.undo(), left);
            due("count(2)", y.count(2), left);
        }

        says(8, "-1: there is none.");
        due("all are undone", y.undo(), -1);
        due("once more", y.undo(), -1);
        due("none was done", at(Bench.CORNER).undo(), -1);
        due("no corner", fresh().undo(), -1);
        BubbleLeases v = at(Bench.CORNER);
        v.undo();
        same("undo of none", v, at(Bench.CORNER));
        due("behind a new corner", plainCorner().undo(), -1);
    }

    private static BubbleLeases plainCorner() {
        BubbleLeases x = rich();
        x.corner(0);
        return x;
    }

    private static void object() {
        says(Doc.WHAT_IT_IS, "An object is used for at most 512 calls after it has been made; what later calls answer is free.");
        BubbleLeases x = at(Bench.CORNER);
        int made = 6;
        for (int call = made + 1; call < 511; call++) {
            due("call " + call, x.told(1), 3);
        }
        x.feed(four("soap"), four(" 7; "), 0, 0, 0);
        due("the 512th", x.corner(8), 0);
    }
}
