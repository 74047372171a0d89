/** Promises 41 to 44: IMAGES, refusals, counts. */
final class PastEdges extends Edge {
    static void run() {
        promise41();
        promise42();
        promise43();
        promise44();
    }

    private static void promise41() {
        says(41, "An IMAGE of all that WORK changes, and of the WORKS that can be undone:");
        // None of these STEPS is REFUSED, so told(10) is 0 as it is behind restore().
        Make two = () -> after(Bench.CORNER, "blow 0 1;breath;run 1 5;", "blow 1 4;sell 0 2 3;east 20;east 20;east 20;east 20;");
        BubbleLeases x = two.make();
        x.image();
        Bench.work(x, "breath;breath;blow 0 5;run 0 77;run 1 78;run 2 79;blow 2 5;");
        x.restore();
        same("a work behind an image", x, two.make());
        BubbleLeases y = two.make();
        y.image();
        y.undo();
        y.undo();
        Bench.work(y, "run 0 1;breath;");
        Bench.work(y, "blow 0 20;breath;run 1 50;");
        Bench.work(y, "west 5;breath;run 2 60;");
        Bench.work(y, "breath;");
        y.restore();
        same("other works in the place of those that were there", y, two.make());
        BubbleLeases most = after(Bench.CORNER, "blow 0 1;blow 1 20;east 1;east 1;east 1;");
        for (int i = 2; i <= 16; i++) {
            Bench.work(most, "east 1;");
        }
        most.image();
        for (int i = 0; i < 16; i++) {
            most.undo();
        }
        Bench.work(most, "breath;");
        most.restore();
        answers("16 works, and what is there behind them", new int[] {most.count(2), most.bubble(0, 1), most.bubble(1, 1)}, 16, 30, 42);
        most.undo();
        answers("15 works", new int[] {most.count(2), most.bubble(0, 1), most.bubble(1, 1)}, 15, 29, 41);
        BubbleLeases z = rich();
        z.image();
        answers("an image changes nothing else", new int[] {z.told(3), z.told(4), z.told(10), z.count(1), z.count(2), z.fault()}, 2, 7, 1, 20, 3, 2);
        BubbleLeases law = at(Bench.CORNER);
        law.image();
        Bench.law(law, "9");
        Bench.book(law, "0 5;");
        Bench.feed(law, "soap 7;");
        law.restore();
        answers("no work changes laws, books, the tape", new int[] {law.would(1, 1, 0, 0, 0, 0, 0, 0), law.told(9), law.count(1)}, 9, 1, 20);

        says(41, "how many there are;");
        BubbleLeases v = at(Bench.CORNER);
        for (int many = 1; many <= 3; many++) {
            due("image", v.image(), many);
            due("count(0)", v.count(0), many);
        }
        v.restore();
        due("one was gone", v.image(), 3);

        says(41, "-1: there are 3.");
        due("a fourth", v.image(), -1);
        due("there are as many", v.count(0), 3);
        Make three = () -> {
            BubbleLeases w = rich();
            w.image();
            return w;
        };
        BubbleLeases w = three.make();
        due("a fourth", w.image(), -1);
        same("a fourth image", w, three.make());
    }

    private static void promise42() {
        says(42, "All is as in the latest IMAGE, which is gone:");
        BubbleLeases x = at(Bench.CORNER);
        for (int i = 1; i <= 3; i++) {
            Bench.work(x, "breath;");
            x.image();
        }
        Bench.work(x, "again 9[breath;];keep 0;");
        answers("ahead of any", new int[] {x.told(3), x.count(2), x.told(10)}, 12, 4, 1);
        for (int i = 3; i >= 1; i--) {
            x.restore();
            answers("image " + i, new int[] {x.told(3), x.count(2), x.count(0), x.told(10)}, i, i, i - 1, 0);
        }
        BubbleLeases y = at(Bench.CORNER);
        y.image();
        for (int i = 0; i < 16; i++) {
            y.work(0);
        }
        y.image();
        for (int i = 0; i < 16; i++) {
            y.undo();
        }
        y.restore();
        answers("all 16 works", new int[] {y.count(2), y.work(0), y.undo()}, 16, -20, 15);
        y.restore();
        answers("no works", new int[] {y.count(2), y.work(0), y.undo()}, 0, 0, 0);
        BubbleLeases z = at(Bench.CORNER);
        z.image();
        Bench.corner(z, Bench.CORNER);
        due("a new corner has none of it", z.restore(), -1);

        says(42, "how many are left;");
        BubbleLeases v = at(Bench.CORNER);
        v.image();
        v.image();
        v.image();
        answers("so many", new int[] {v.restore(), v.count(0), v.restore(), v.count(0), v.restore(), v.count(0)}, 2, 2, 1, 1, 0, 0);

        says(42, "-1: there is none.");
        answers("all are gone", new int[] {v.restore(), v.restore(), v.count(0)}, -1, -1, 0);
        due("a new object", fresh().restore(), -1);
        Make none = () -> after(Bench.CORNER, "blow 0 1;blow 0 1;breath;");
        BubbleLeases w = none.make();
        w.restore();
        same("restore of none", w, none.make());
    }

    private static void promise43() {
        says(43, "How many calls were refused: 0 NoSuchElementException, 1 IllegalArgumentException;");
        BubbleLeases x = at(Bench.CORNER);
        answers("none", new int[] {x.status(0), x.status(1)}, 0, 0);
        for (int i = 1; i <= 20; i++) {
            thrown(x, y -> y.view(4, 4));
            answers("the first, " + i, new int[] {x.status(0), x.status(1)}, i, i - 1);
            thrown(x, y -> y.view(0, 4));
            answers("the second, " + i, new int[] {x.status(0), x.status(1)}, i, i);
        }
        x.feed(1, 2, 3, 4, 5);
        x.corner(5);
        x.undo();
        x.restore();
        Bench.work(x, "keep 0;");
        x.count(9);
        x.status(9);
        x.bubble(0, 0);
        answers("faults, refused steps and NONE are no refused calls", new int[] {x.status(0), x.status(1)}, 20, 20);

        says(43, "NONE for others.");
        answers("others", new int[] {x.status(-1), x.status(2), x.status(MIN), x.status(MAX)}, NONE, NONE, NONE, NONE);
        answers("they are not refused", new int[] {x.status(0), x.status(1)}, 20, 20);

        says(43, "(No IMAGE keeps it.)");
        BubbleLeases z = at(Bench.CORNER);
        z.image();
        thrown(z, y -> y.lasts(3));
        thrown(z, y -> y.told(12));
        thrown(z, y -> y.told(12));
        z.restore();
        answers("restored", new int[] {z.status(0), z.status(1)}, 1, 2);
        z.work(0);
        z.undo();
        z.corner(0);
        answers("undone, with a new corner", new int[] {z.status(0), z.status(1)}, 1, 2);
    }

    private static void promise44() {
        says(44, "0 IMAGES, 1 bytes of the TAPE, 2 WORKS that can be undone;");
        BubbleLeases x = at(Bench.CORNER);
        answers("none", new int[] {x.count(0), x.count(1), x.count(2)}, 0, 0, 0);
        x.work(0);
        Bench.work(x, "breath;");
        Bench.work(x, "breath");
        x.image();
        Bench.feed(x, " ".repeat(60));
        answers("some", new int[] {x.count(0), x.count(1), x.count(2)}, 1, 60, 2);
        BubbleLeases y = at(Bench.CORNER);
        for (int i = 0; i < 18; i++) {
            y.work(0);
            y.image();
        }
        for (int i = 0; i < 32; i++) {
            y.feed(0, 0, 0, 0, 0);
        }
        answers("all", new int[] {y.count(0), y.count(1), y.count(2)}, 3, 600, 16);

        says(44, "NONE for others.");
        answers("others", new int[] {x.count(-1), x.count(3), x.count(MIN), x.count(MAX)}, NONE, NONE, NONE, NONE);
        answers("they are not refused", new int[] {x.status(0), x.status(1)}, 0, 0);
    }
}
