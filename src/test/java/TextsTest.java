/** Promises 1 to 8 and 41 to 44: texts and their faults, work, undo, images, refusals. */
public final class TextsTest {
    public static void main(String[] args) {
        promise1();
        promise2();
        promise3();
        promise3Faults();
        promise4();
        promise4Faults();
        promise5Steps();
        promise5Breath();
        promise5Agains();
        promise5Faults();
        promise5Most();
        promise6();
        promise7();
        promise8();
        promises41And42();
        promises43And44();
        Bench.end();
    }

    private static void promise1() {
        BubbleLeases x = new BubbleLeases();
        int[] due = {0, 0, 8, 0, 0, 0, 0, 0, 0, 0, 0, 0};
        for (int what = 0; what < due.length; what++) {
            Bench.due("new: told(" + what + ")", x.told(what), due[what]);
        }
        Bench.due("new: fault()", x.fault(), -1);
        Bench.due("new: NONE", BubbleLeases.NONE, -1);
        Bench.due("new: would", x.would(7, 8, 2, 0, 0, 0, 0, 0), 15);
        for (int what = 0; what < 3; what++) {
            Bench.due("new: count(" + what + ")", x.count(what), 0);
        }
    }

    private static void promise2() {
        BubbleLeases x = new BubbleLeases();
        for (int i = 1; i <= 30; i++) {
            Bench.due("feed", x.feed(0, 0, 0, 0, 0), 20 * i);
        }
        Bench.due("feed beyond 600", x.feed(1, 2, 3, 4, 5), -1);
        Bench.due("count(1) at 600", x.count(1), 600);
        Bench.due("zeros are no corner", x.corner(600), -9);
        // The highest byte comes first, and bytes from 128 on are no letters.
        x.feed('s' << 24 | 'o' << 16 | 'a' << 8 | 'p', '1' << 24 | '7' << 16 | ';' << 8 | ' ', 0, 0, 0);
        Bench.due("corner by bytes", x.corner(8), 0);
        Bench.due("its soap", x.told(2), 17);
        x.feed(-1, -1, -1, -1, -1);
        Bench.faulty(x, "byte 255", x.corner(1), 1, 0);
        x.feed('s' << 24 | 'o' << 16 | 'a' << 8 | ('p' + 128), 0, 0, 0, 0);
        Bench.faulty(x, "byte 240", x.corner(5), 1, 0);
    }

    private static void promise3() {
        BubbleLeases x = new BubbleLeases();
        Bench.due("corner", Bench.corner(x, Bench.CORNER), 3);
        Bench.due("tape is empty", x.count(1), 0);
        Bench.due("blanks, and none where none need be", Bench.corner(x, "  view5 007 ;tenant  9 3;soap20 ; "), 1);
        Bench.due("its view", x.view(0, 1), 7);
        Bench.due("the last soap counts", Bench.corner(x, "soap 3;soap 20;"), 0);
        Bench.due("soap", x.told(2), 20);
        Bench.due("all at the edges", Bench.corner(x, "view 99 60;view 0 0;tenant 99 99;tenant 0 0;soap 1;"), 2);
        Bench.due("sixty", Bench.corner(x, "soap 1;".repeat(60)), 0);
        Bench.due("the empty one has 8", Bench.corner(x, ""), 0);
        Bench.due("soap", x.told(2), 8);
        Bench.feed(x, Bench.CORNER);
        Bench.wrongArgument(x, "corner(-1)", () -> x.corner(-1));
        Bench.wrongArgument(x, "corner(101)", () -> x.corner(101));
        Bench.due("the tape stays", x.count(1), 100);
        Bench.due("corner(85)", x.corner(85), 3);
        cornerBeginsAnew();
    }

    private static void cornerBeginsAnew() {
        BubbleLeases x = Bench.at(Bench.CORNER);
        Bench.work(x, "blow 0 5;blow 0 5;breath;");
        Bench.law(x, "60");
        Bench.book(x, "0 0;");
        x.image();
        Bench.corner(x, "soap;");
        Bench.due("behind a fault all stays", x.told(3), 1);
        Bench.due("so the law", x.would(1, 1, 0, 0, 0, 0, 0, 0), 60);
        Bench.due("so the book", x.told(9), 1);
        Bench.due("so the images", x.count(0), 1);
        Bench.due("so the works", x.count(2), 1);
        Bench.due("so the refused", x.told(10), 1);
        Bench.corner(x, Bench.CORNER);
        Bench.due("breath 0", x.told(3), 0);
        Bench.due("nobody paid", x.told(7), 34);
        Bench.due("no bubbles", x.told(4), 0);
        Bench.due("none blown", x.told(5), 0);
        Bench.due("no law", x.would(1, 1, 0, 0, 0, 0, 0, 0), 2);
        Bench.due("no book", x.told(9), 0);
        Bench.due("no images", x.restore(), -1);
        Bench.due("nothing to undo", x.undo(), -1);
        Bench.due("none refused", x.told(10), 0);
    }

    private static void cornerFault(String text, int kind, int place) {
        BubbleLeases x = new BubbleLeases();
        Bench.faulty(x, "corner '" + text + "'", Bench.corner(x, text), kind, place);
    }

    private static void promise3Faults() {
        cornerFault("view 100 0;", 2, 5);
        cornerFault("view 0 61;", 2, 7);
        cornerFault("view 0 99999999999999999999;", 2, 7);
        cornerFault("tenant 100 0;", 2, 7);
        cornerFault("tenant 0 100;", 2, 9);
        cornerFault("soap 0;", 2, 5);
        cornerFault("soap 21;", 2, 5);
        cornerFault("soap 21", 2, 5);
        cornerFault("  views 1 1;", 1, 2);
        cornerFault("vie", 1, 0);
        cornerFault("View 1 1;", 1, 0);
        cornerFault("soap 1;;", 1, 7);
        cornerFault("soap 1", 1, 6);
        cornerFault("soap  ", 1, 6);
        cornerFault("view 1;", 1, 6);
        cornerFault("view 1 1 1;", 1, 9);
        cornerFault("soap -1;", 1, 5);
        cornerFault("7;", 1, 0);
        cornerFault("view 0 0;".repeat(9), 3, 72);
        cornerFault("tenant 0 0;".repeat(6), 3, 55);
        cornerFault("soap 1;".repeat(61), 3, 420);
        cornerFault("soap 1;".repeat(60) + " soap", 3, 421);
        cornerFault("soap 1;".repeat(60) + "bar 1;", 1, 420);
        cornerFault("soap 1;".repeat(60) + ";", 1, 420);
        cornerFault("view 0 0;".repeat(8) + "view 100 0;", 3, 72);
        cornerFault("view 0 0;".repeat(8) + "views 0;", 1, 72);
    }

    private static int by(String law) {
        BubbleLeases x = new BubbleLeases();
        Bench.due("law " + law, Bench.law(x, law), 1);
        return x.would(6, 5, 4, 77, 480, 400, 999, 3);
    }

    private static void promise4() {
        String[] laws = {"size", "soap", "walls", "place - 50", "worth - 450", "breath - 360", "blown - 970", "tenant",
            "10 - 3 - 2", "2 + 3 * 4", "(2 + 3) * 4", "60 / 7 / 2", "7 - 60 % 7", "50 - 9 / 0", "50 - 9 % 0",
            "10 + (0 - 7) / 2", "10 + (0 - 7) % 4", "least [ 5 , 3 + 1 ]", "most[5,3+1]", "0", "0 - 5", "61", "999",
            "999 * 999 * 999 * 3 + 999", "((((((7))))))", "  8  ", "most[least[9,8],(3)]", "least[1+1,9]*most[1,3]%4"};
        int[] due = {6, 5, 4, 27, 30, 40, 29, 3,
            5, 14, 20, 4, 3, 50, 50,
            7, 7, 4, 5, 1, 1, 60, 60,
            1, 7, 8, 8, 2};
        for (int i = 0; i < laws.length; i++) {
            Bench.due("would by " + laws[i], by(laws[i]), due[i]);
        }
        BubbleLeases x = new BubbleLeases();
        Bench.feed(x, "1+".repeat(75) + "1");
        Bench.wrongArgument(x, "law(151)", () -> x.law(151));
        Bench.wrongArgument(x, "law(-1)", () -> x.law(-1));
        Bench.due("the tape stays", x.count(1), 160);
        Bench.due("law(149)", x.law(149), 1);
        Bench.due("75 ones", x.would(1, 1, 0, 0, 0, 0, 0, 0), 60);
        Bench.due("the longest law of all", Bench.law(x, "9-1-1-1-1-1".repeat(1) + " ".repeat(139)), 1);
        Bench.due("9 less 5", x.would(1, 1, 0, 0, 0, 0, 0, 0), 4);
        Bench.due("75 open ones in turn", Bench.law(x, "(1)+".repeat(37) + "1"), 1);
        Bench.due("38", x.would(1, 1, 0, 0, 0, 0, 0, 0), 38);
        Bench.law(x, "1+");
        Bench.due("a law at fault changes nothing", x.would(1, 1, 0, 0, 0, 0, 0, 0), 38);
    }

    private static void lawFault(String text, int kind, int place) {
        BubbleLeases x = new BubbleLeases();
        Bench.faulty(x, "law '" + text + "'", Bench.law(x, text), kind, place);
    }

    private static void promise4Faults() {
        lawFault("", 1, 0);
        lawFault("   ", 1, 3);
        lawFault("soap+", 1, 5);
        lawFault("1000", 2, 0);
        lawFault("1 1000", 1, 2);
        lawFault("least 5", 1, 6);
        lawFault("least[5]", 1, 7);
        lawFault("least[5,5", 1, 9);
        lawFault("sizes", 1, 0);
        lawFault("-1", 1, 0);
        lawFault("(1", 1, 2);
        lawFault("(1]", 1, 2);
        lawFault("1)", 1, 1);
        lawFault("1 soap", 1, 2);
        lawFault("()", 1, 1);
        lawFault("(((((((1", 3, 6);
        lawFault("((((((least", 3, 6);
        lawFault("(((((( most[1,1]", 3, 7);
        lawFault("least[1,most[1,(least[1,(((1", 3, 26);
        lawFault("((((((1(", 1, 7);
        lawFault("((((((mosts", 1, 6);
        lawFault("1;", 1, 1);
    }

    private static void promise5Steps() {
        BubbleLeases x = Bench.after(Bench.CORNER, "blow 0 4;");
        Bench.due("blow of 4 costs 1", x.tenant(0, 0), 19);
        Bench.due("blow 1 20 costs 5", Bench.work(x, "blow 1 20;"), 1);
        Bench.due("all his money", x.tenant(1, 0), 0);
        Bench.due("its place", x.bubble(1, 1), 24);
        Bench.due("blow again is refused", Bench.work(x, "blow 0 1;blow 1 1;"), 0);
        Bench.due("two refused", x.told(10), 2);
        Bench.due("two blown", x.told(5), 2);
        x = Bench.at("tenant 4 0;tenant 4 0;");
        Bench.due("20 costs 5, 19 costs 4", Bench.work(x, "blow 0 20;blow 1 19;"), 1);
        Bench.due("who could pay", x.told(4), 2);

        x = Bench.after(Bench.CORNER, "blow 2 1;east 9;");
        Bench.due("99 is not beyond", x.bubble(2, 1), 99);
        Bench.due("beyond", Bench.work(x, "east 1;"), 1);
        Bench.due("is burst", x.told(6), 1);
        Bench.due("none is left for winds", Bench.work(x, "east 1;west 1;"), 0);
        x = Bench.after(Bench.CORNER, "blow 0 1;blow 1 1;west 12;");
        Bench.due("0 is not below", x.bubble(0, 1), 0);
        Bench.due("the other one too", x.bubble(1, 1), 12);
        Bench.work(x, "west 1;");
        Bench.due("below", x.told(4), 2);

        x = Bench.after(Bench.CORNER, "run 0 12;run 0 99;run 0 99;");
        Bench.due("where he stands", x.tenant(0, 1), 99);
        Bench.due("refused where he stands", x.told(10), 2);
        Bench.work(x, "blow 0 1;");
        Bench.due("the bubble is where he stands", x.bubble(0, 1), 99);

        x = Bench.after(Bench.CORNER, "blow 0 9;breath;sell 0 0 0;sell 1 2 0;sell 0 1 6;sell 0 1 5;");
        Bench.due("three refused", x.told(10), 3);
        Bench.due("the seller's money", x.tenant(0, 0), 23);
        Bench.due("the buyer's money", x.tenant(1, 0), 0);
        Bench.due("whose it is", x.told(4), 2);
        Bench.due("its age", x.bubble(1, 2), 1);
        Bench.due("its place", x.bubble(1, 1), 12);
        Bench.due("to one who has one", Bench.work(x, "blow 0 1;sell 1 0 0;"), 1);

        x = Bench.after(Bench.CORNER, "keep 0;blow 0 3;keep 0;breath;east 3;keep 0;");
        Bench.due("refused without, and at 0", x.told(10), 2);
        Bench.due("kept", x.bubble(0, 2), 0);
        Bench.due("too far", Bench.work(x, "breath;east 1;keep 0;"), 2);
        Bench.due("its age", x.bubble(0, 2), 1);
        BubbleLeases empty = new BubbleLeases();
        Bench.wrongArgument(empty, "work(1) of an empty tape", () -> empty.work(1));
    }

    private static void promise5Breath() {
        BubbleLeases x = Bench.at("tenant 99 10;tenant 99 20;tenant 99 90;soap 1;");
        Bench.law(x, "1 + walls");
        Bench.work(x, "blow 0 5;blow 1 5;blow 2 5;breath;");
        Bench.due("who touch last one longer", x.told(4), 3);
        Bench.work(x, "breath;");
        Bench.due("both go at once, by their wall", x.told(4), 0);
        Bench.due("all are counted", x.told(6), 3);

        x = Bench.at("tenant 99 10;");
        Bench.law(x, "breath + 1");
        Bench.work(x, "blow 0 5;breath;");
        Bench.due("life by the breath ahead of its one more", x.told(4), 0);
        Bench.law(x, "60");
        Bench.work(x, "again 30[again 30[breath;];];");
        Bench.work(x, "again 30[again 30[breath;];];");
        // Of 200 begun one is the outer again and seven are inner ones.
        Bench.due("not yet", x.told(3), 1 + 2 * 192);
        Bench.due("up to 400", Bench.work(x, "again 20[breath;];"), 15);
        Bench.due("five refused", x.told(10), 5);
        Bench.due("breath 400", x.told(3), 400);
        Bench.work(x, "blow 0 5;breath;");
        Bench.due("nothing ages", x.bubble(0, 2), 0);
    }

    private static void promise5Agains() {
        BubbleLeases x = Bench.at(Bench.CORNER);
        Bench.due("again", Bench.work(x, "again 3[breath;];"), 3);
        Bench.due("again 0", Bench.work(x, "again 0[breath;];breath;"), 1);
        Bench.due("empty agains", Bench.work(x, "again 30[];again 30[ ] ;"), 0);
        Bench.due("six of them", Bench.work(x, "again 1[again 1[again 1[again 1[again 1[again 1[breath;];];];];];];"), 1);
        Bench.due("one behind another", Bench.work(x, "again 2[again 2[breath;];again 2[breath;];];"), 8);
        // Begun are: one again, 24 times one again and 7 runs, one again and 6 runs.
        BubbleLeases y = Bench.at("tenant 9 0;");
        Bench.due("200 begun, agains too", Bench.work(y, "again 30[again 7[run 0 1;];];"), 1);
        Bench.due("refused ones begin too", y.told(10), 173);
        Bench.due("left out behind", Bench.work(y, "again 30[again 30[run 0 1;];];run 0 2;"), 0);
        Bench.due("he stands there still", y.tenant(0, 1), 1);
        Bench.due("an again that is never begun", Bench.work(y, "again 30[again 30[];];again 30[again 6[];];run 0 2;"), 1);
        Bench.due("no works without steps are lost", Bench.work(y, ""), 0);
        Bench.due("all works are there", y.count(2), 4);
    }

    private static void workFault(String text, int kind, int place) {
        BubbleLeases x = Bench.at(Bench.CORNER);
        Bench.faulty(x, "work '" + text + "'", Bench.work(x, "blow 0 1;" + text), kind, place + 9);
        Bench.due("nothing is done of '" + text + "'", x.told(5), 0);
        Bench.due("nothing is there to undo of '" + text + "'", x.count(2), 0);
    }

    private static void promise5Faults() {
        workFault("blow 3 1;", 2, 5);
        workFault("blow 0 0;", 2, 7);
        workFault("blow 0 21;", 2, 7);
        workFault("east 0;", 2, 5);
        workFault("east 21;", 2, 5);
        workFault("west 21;", 2, 5);
        workFault("run 3 1;", 2, 4);
        workFault("run 0 100;", 2, 6);
        workFault("sell 3 0 0;", 2, 5);
        workFault("sell 0 3 0;", 2, 7);
        workFault("sell 0 1 100;", 2, 9);
        workFault("keep 3;", 2, 5);
        workFault("again 31[];", 2, 6);
        workFault("breaths;", 1, 0);
        workFault("breath", 1, 6);
        workFault("breath 1;", 1, 7);
        workFault("]", 1, 0);
        workFault("again 1[", 1, 8);
        workFault("again 1[breath]", 1, 14);
        workFault("again 1[];]", 1, 10);
        workFault("again 1[]", 1, 9);
        workFault("again 1 breath;", 1, 8);
        workFault("again 1[".repeat(7), 3, 48);
        workFault("again 1[".repeat(6) + " again", 3, 49);
        workFault("again 1[".repeat(6) + "agains", 1, 48);
        BubbleLeases nobody = new BubbleLeases();
        Bench.faulty(nobody, "keep 0 of nobody", Bench.work(nobody, "keep 0;"), 2, 5);
    }

    private static void promise5Most() {
        BubbleLeases x = Bench.at(Bench.CORNER);
        Bench.feed(x, "breath;".repeat(22));
        Bench.wrongArgument(x, "work(151)", () -> x.work(151));
        Bench.wrongArgument(x, "work(-1)", () -> x.work(-1));
        Bench.due("the tape stays", x.count(1), 160);
        Bench.due("21 breaths", x.work(147), 21);
        Bench.due("25 shortest", Bench.work(x, "keep0;".repeat(25)), 0);
        Bench.due("were begun", x.told(10), 25);
        for (int i = 3; i <= 16; i++) {
            Bench.due("work " + i, Bench.work(x, i == 16 ? "east 1;" : ""), 0);
        }
        Bench.work(x, "again 31[");
        Bench.due("no fault", x.fault(), -1);
        Bench.feed(x, "breath;breath;breath;");
        Bench.wrongArgument(x, "work(41) when full", () -> x.work(41));
        Bench.due("a 17th", x.work(7), -20);
        Bench.due("the tape is empty", x.count(1), 0);
        Bench.due("refused by the latest stay", x.told(10), 1);
        Bench.due("undone", x.undo(), 15);
        Bench.due("there is room", Bench.work(x, "breath;"), 1);
    }

    private static void promise6() {
        BubbleLeases x = Bench.at(Bench.CORNER);
        Bench.due("lines", Bench.book(x, "3 5; 0 4;2 0 ; "), 3);
        Bench.due("told(9)", x.told(9), 3);
        bookFault("4 0;", 2, 0);
        bookFault("0 6;", 2, 2);
        bookFault("0 1;0 2;", 2, 4);
        bookFault("0 1; 0 9;", 2, 5);
        bookFault("0;", 1, 1);
        bookFault("0 1", 1, 3);
        bookFault("a", 1, 0);
        bookFault(";", 1, 0);
        Bench.book(x, "0 1;0 2;");
        Bench.due("at fault the book stays", x.told(9), 3);
        Bench.due("the empty book", Bench.book(x, "  "), 0);
        Bench.feed(x, " ".repeat(80));
        Bench.wrongArgument(x, "book(61)", () -> x.book(61));
        Bench.wrongArgument(x, "book(-1)", () -> x.book(-1));
        Bench.due("book(60)", x.book(60), 0);
        BubbleLeases eight = Bench.at("view 1 1;".repeat(8));
        Bench.due("eight lines", Bench.book(eight, "0 5;1 5;2 5;3 5;4 5;5 5;6 5;7 5;"), 8);
        Bench.faulty(eight, "a ninth", Bench.book(eight, "0 5;1 5;2 5;3 5;4 5;5 5;6 5;7 5;0 5;"), 2, 32);
    }

    private static void bookFault(String text, int kind, int place) {
        BubbleLeases x = Bench.at(Bench.CORNER);
        Bench.faulty(x, "book '" + text + "'", Bench.book(x, text), kind, place);
    }

    private static void promise7() {
        BubbleLeases x = Bench.at(Bench.CORNER);
        Bench.work(x, "breath;x");
        Bench.due("fault", x.fault(), 7);
        x.undo();
        x.image();
        Bench.due("it stays till the next text", x.fault(), 7);
        Bench.wrongArgument(x, "book(1) of an empty tape", () -> x.book(1));
        Bench.due("a call refused is no text", x.fault(), 7);
        x.book(0);
        Bench.due("without", x.fault(), -1);
    }

    private static void promise8() {
        BubbleLeases x = Bench.at(Bench.CORNER);
        Bench.due("none", x.undo(), -1);
        Bench.work(x, "blow 0 4;run 1 30;breath;");
        Bench.work(x, "");
        Bench.work(x, "sell 0 2 4;east 20;east 20;east 20;east 20;east 20;");
        Bench.due("burst", x.told(6), 1);
        Bench.due("undo", x.undo(), 2);
        Bench.due("none refused now", x.told(10), 0);
        Bench.due("not burst", x.told(6), 0);
        Bench.due("not sold", x.told(4), 1);
        Bench.due("nor paid", x.tenant(2, 0), 9);
        Bench.due("undo one of no steps", x.undo(), 1);
        Bench.due("all is there still", x.bubble(0, 2), 1);
        Bench.due("undo", x.undo(), 0);
        Bench.due("stands again", x.tenant(1, 1), 24);
        Bench.due("breath again", x.told(3), 0);
        Bench.due("blown again", x.told(5), 0);
        Bench.due("none", x.undo(), -1);
    }

    private static void promises41And42() {
        BubbleLeases x = Bench.at(Bench.CORNER);
        Bench.due("none", x.restore(), -1);
        Bench.work(x, "blow 0 10;");
        Bench.due("image", x.image(), 1);
        Bench.work(x, "breath;breath;blow 0 1;");
        Bench.due("image", x.image(), 2);
        x.undo();
        x.undo();
        Bench.due("image", x.image(), 3);
        Bench.due("no fourth", x.image(), -1);
        Bench.due("count(0)", x.count(0), 3);
        Bench.law(x, "50");
        Bench.book(x, "0 0;");
        Bench.work(x, "blow 1 1;blow 1 1;");
        Bench.due("restore", x.restore(), 2);
        Bench.due("none is there", x.told(4), 0);
        Bench.due("none refused", x.told(10), 0);
        Bench.due("nothing to undo", x.count(2), 0);
        Bench.due("the law stays", x.would(1, 1, 0, 0, 0, 0, 0, 0), 50);
        Bench.due("the book stays", x.told(9), 1);
        Bench.due("restore", x.restore(), 1);
        Bench.due("breath 2", x.told(3), 2);
        Bench.due("burst", x.told(6), 1);
        Bench.due("blown twice", x.told(5), 2);
        Bench.due("two works", x.count(2), 2);
        Bench.due("undo", x.undo(), 1);
        Bench.due("as it was", x.bubble(0, 2), 0);
        Bench.due("undo", x.undo(), 0);
        Bench.due("restore", x.restore(), 0);
        Bench.due("one work", x.count(2), 1);
        Bench.due("its bubble", x.bubble(0, 0), 10);
        Bench.work(x, "blow 0 1;");
        Bench.due("none", x.restore(), -1);
        Bench.due("none restored, nothing changes", x.told(10), 1);
    }

    private static void promises43And44() {
        BubbleLeases x = Bench.at(Bench.CORNER);
        x.image();
        Bench.wrongArgument(x, "told(-1)", () -> x.told(-1));
        Bench.noSuch(x, "lasts(3)", () -> x.lasts(3));
        x.restore();
        Bench.corner(x, "");
        Bench.due("no image keeps it", x.status(0), 1);
        Bench.due("nor any corner", x.status(1), 1);
        Bench.due("others", x.status(2), -1);
        Bench.due("others", x.status(-1), -1);
        Bench.due("others", x.count(3), -1);
        Bench.due("others", x.count(-1), -1);
        Bench.due("others are not refused", x.status(1), 1);
        x.feed(1, 2, 3, 4, 5);
        Bench.due("bytes", x.count(1), 20);
        x.work(0);
        Bench.due("works", x.count(2), 1);
        x.image();
        Bench.due("images", x.count(0), 1);
        Bench.due("bytes gone", x.count(1), 0);
    }
}
