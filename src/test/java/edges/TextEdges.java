/** The Terms up to ==== 2: what texts there are. */
final class TextEdges extends Edge {
    private static final int T = Doc.TERMS;
    private static final String FIVE = "tenant 99 10;tenant 99 20;tenant 99 30;tenant 99 40;tenant 99 50;";

    static void run() {
        cornerText();
        cornerViews();
        cornerTenants();
        cornerSoap();
        lawText();
        lawLife();
        lawOperators();
        lawNames();
        lawWalls();
        lawWorth();
        lawCounts();
        lawBrackets();
        lawWraps();
        lawDivides();
        workText();
        workSteps();
        workAgain();
        bookText();
        bookLines();
    }

    // ---- CORNER

    private static void cornerText() {
        says(T, "A CORNER is a text of up to 600 bytes:");
        BubbleLeases x = fresh();
        due("600 bytes, the last of which counts", Bench.corner(x, " ".repeat(593) + "soap 9;"), 0);
        due("its soap", x.told(2), 9);
        faulty(Edge::fresh, Bench::corner, " ".repeat(594) + "soap 9", 1, 600);
        Make whole = () -> {
            BubbleLeases y = fresh();
            Bench.feed(y, " ".repeat(600));
            return y;
        };
        allowed("corner(600)", whole, y -> y.corner(600));
        wrong("corner(601)", whole, y -> y.corner(601));

        says(T, "{ CLAUSE \";\" }, at most 60.");
        right(Edge::fresh, Bench::corner, "", 0);
        right(Edge::fresh, Bench::corner, "  ", 0);
        right(Edge::fresh, Bench::corner, "soap 1;", 0);
        String all = "view 0 0;".repeat(8) + "tenant 0 0;".repeat(5) + "soap 1;".repeat(47);
        right(Edge::fresh, Bench::corner, all, 5);
        faulty(Edge::fresh, Bench::corner, all + "soap 1;", 3, all.length());
        faulty(Edge::fresh, Bench::corner, "soap 1", 1, 6);
        faulty(Edge::fresh, Bench::corner, "soap 1 soap 1;", 1, 7);
        faulty(Edge::fresh, Bench::corner, ";", 1, 0);
        faulty(Edge::fresh, Bench::corner, "soap 1;;", 1, 7);
    }

    private static void cornerViews() {
        says(T, "CLAUSE: \"view\" X W (VIEWS, numbered from 0 on, 8 at most:");
        BubbleLeases x = at("view 11 1;view 12 2;view 13 3;view 14 4;view 15 5;view 16 6;view 17 7;view 18 8;");
        due("eight of them", x.told(0), 8);
        for (int v = 0; v < 8; v++) {
            answers("view " + v, new int[] {x.view(v, 0), x.view(v, 1)}, 11 + v, 1 + v);
        }
        faulty(Edge::fresh, Bench::corner, "view 11 1;".repeat(8) + "view 19 9;", 3, 80);
        faulty(Edge::fresh, Bench::corner, "view 11;", 1, 7);
        faulty(Edge::fresh, Bench::corner, "view;", 1, 4);
        faulty(Edge::fresh, Bench::corner, "view 11 1 1;", 1, 10);

        says(T, "at X, 0 to 99, WORTH W, 0 to 60),");
        number(Edge::fresh, Bench::corner, "view ", 0, 99, " 5;");
        number(Edge::fresh, Bench::corner, "view 5 ", 0, 60, ";");
        answers("both at their ends", new int[] {at("view 0 60;").view(0, 0), at("view 0 60;").view(0, 1),
            at("view 99 0;").view(0, 0), at("view 99 0;").view(0, 1)}, 0, 60, 99, 0);
    }

    private static void cornerTenants() {
        says(T, "\"tenant\" M X (TENANTS likewise, 5:");
        BubbleLeases x = at("tenant 1 11;tenant 2 12;tenant 3 13;tenant 4 14;tenant 5 15;");
        due("five of them", x.told(1), 5);
        for (int t = 0; t < 5; t++) {
            answers("tenant " + t, new int[] {x.tenant(t, 0), x.tenant(t, 1)}, 1 + t, 11 + t);
        }
        faulty(Edge::fresh, Bench::corner, "tenant 1 11;".repeat(5) + "tenant 1 11;", 3, 60);
        faulty(Edge::fresh, Bench::corner, "tenant 11;", 1, 9);
        faulty(Edge::fresh, Bench::corner, "tenant 1 11 1;", 1, 12);

        says(T, "MONEY M, 0 to 99, stands at X, 0 to 99),");
        number(Edge::fresh, Bench::corner, "tenant ", 0, 99, " 5;");
        number(Edge::fresh, Bench::corner, "tenant 5 ", 0, 99, ";");
        answers("both at their ends", new int[] {at("tenant 0 99;").tenant(0, 0), at("tenant 0 99;").tenant(0, 1),
            at("tenant 99 0;").tenant(0, 0), at("tenant 99 0;").tenant(0, 1)}, 0, 99, 99, 0);
    }

    private static void cornerSoap() {
        says(T, "or \"soap\" N (1 to 20; 8 without; the last counts).");
        number(Edge::fresh, Bench::corner, "soap ", 1, 20, ";");
        due("1", at("soap 1;").told(2), 1);
        due("20", at("soap 20;").told(2), 20);
        due("8 without any clause", at("").told(2), 8);
        due("8 without that clause", at("view 1 1;tenant 1 1;").told(2), 8);
        due("the last, be it less", at("soap 20;soap 19;view 1 1;soap 3;").told(2), 3);
        due("the last, be it more", at("soap 3;soap 20;tenant 1 1;").told(2), 20);
        BubbleLeases x = at("soap 3;");
        Bench.corner(x, "view 1 1;");
        due("8 again without, behind another corner", x.told(2), 8);
        faulty(Edge::fresh, Bench::corner, "soap;", 1, 4);
        faulty(Edge::fresh, Bench::corner, "soap 1 1;", 1, 7);
    }

    // ---- LAW

    /** LIFE by a LAW for S 6, soap 5, walls 4, X 77, WORTH 480, BREATH 400, 999 blown, TENANT 3. */
    private static void life(String law, int want) {
        BubbleLeases x = fresh();
        due("law(" + law + ")", Bench.law(x, law), 1);
        due("LIFE by " + law, x.would(6, 5, 4, 77, 480, 400, 999, 3), want);
    }

    private static void lawFault(String law, int kind, int place) {
        faulty(Edge::fresh, Bench::law, law, kind, place);
    }

    private static void lawText() {
        says(T, "A LAW is a text of up to 150 bytes:");
        String whole = "99" + "-1".repeat(74);
        due("its length", whole.length(), 150);
        life(whole, 25);
        lawFault(whole.substring(0, 149), 1, 149);
        Make longer = () -> {
            BubbleLeases x = fresh();
            Bench.feed(x, whole + "-1");
            return x;
        };
        allowed("law(150)", longer, x -> x.law(150));
        wrong("law(151)", longer, x -> x.law(151));

        says(T, "E, at the end nothing more;");
        life("7", 7);
        life(" 7 ", 7);
        lawFault("", 1, 0);
        lawFault("7 7", 1, 2);
        lawFault("7 size", 1, 2);
        lawFault("7)", 1, 1);
        lawFault("7]", 1, 1);
        lawFault("7,7", 1, 1);
        lawFault("7;", 1, 1);
        lawFault("7(7)", 1, 1);
        lawFault("(7)(7)", 1, 3);

        says(T, "without: soap * 2 - size / 2 + walls.");
        BubbleLeases x = fresh();
        due("all small", x.would(1, 1, 0, 0, 0, 0, 0, 0), 2);
        due("half of 7 is cut", x.would(7, 8, 2, 99, 480, 400, 999, 4), 15);
        due("below 1", x.would(20, 1, 0, 0, 0, 0, 0, 0), 1);
        due("all great", x.would(20, 20, 4, 0, 0, 0, 0, 0), 34);
        due("the most", x.would(1, 20, 4, 0, 0, 0, 0, 0), 44);
        due("of a bubble", after("tenant 99 10;soap 5;", "blow 0 9;").bubble(0, 3), 6);
    }

    private static void lawLife() {
        says(T, "LIFE of a BUBBLE: what comes out, 1 at least, 60 at most.");
        life("0", 1);
        life("0 - 1", 1);
        life("0 - 999 * 999", 1);
        life("1", 1);
        life("2", 2);
        life("59", 59);
        life("60", 60);
        life("61", 60);
        life("999 * 999", 60);
        BubbleLeases x = after("tenant 99 10;", "blow 0 1;");
        Bench.law(x, "0 - 5");
        due("of a bubble, 1 at least", x.bubble(0, 3), 1);
        due("it lasts 1", x.lasts(0), 1);
        Bench.law(x, "999");
        due("of a bubble, 60 at most", x.bubble(0, 3), 60);
        due("it lasts 60", x.lasts(0), 60);
    }

    private static void lawOperators() {
        says(T, "E: T { + or - T }.");
        life("5", 5);
        life("5+6", 11);
        life("9-3-2", 4);
        life("9-3+2", 8);
        life("1+2-3+4-2", 2);
        lawFault("5+", 1, 2);
        lawFault("5-", 1, 2);
        lawFault("+5", 1, 0);
        lawFault("-5", 1, 0);
        lawFault("5+-5", 1, 2);
        lawFault("5++5", 1, 2);

        says(T, "T: U { * or / or % U }.");
        life("2+3*4", 14);
        life("3*4+2", 14);
        life("20-6/2", 17);
        life("20/3/2", 3);
        life("20%7*3", 18);
        life("7*3%5", 1);
        life("2*7%5", 4);
        life("20/7*2", 4);
        life("59-20%7", 53);
        lawFault("5*", 1, 2);
        lawFault("5/", 1, 2);
        lawFault("5%", 1, 2);
        lawFault("*5", 1, 0);
        lawFault("5**5", 1, 2);
        lawFault("5*/5", 1, 2);

        says(T, "U: N (0 to 999),");
        number(Edge::fresh, Bench::law, "", 0, 999, "");
        number(Edge::fresh, Bench::law, "7+", 0, 999, "*1");
        life("0+7", 7);
        life("999-990", 9);
    }

    private static void lawNames() {
        says(T, "\"size\" (S), \"soap\" (N),");
        BubbleLeases x = after("tenant 99 10;tenant 99 60;soap 13;", "blow 0 20;blow 1 1;");
        Bench.law(x, "size");
        answers("size", new int[] {x.bubble(0, 3), x.bubble(1, 3)}, 20, 1);
        Bench.law(x, "soap");
        answers("soap", new int[] {x.bubble(0, 3), x.bubble(1, 3)}, 13, 13);
        BubbleLeases y = after("tenant 99 10;", "blow 0 3;");
        Bench.law(y, "soap");
        due("soap without", y.bubble(0, 3), 8);
        life("size", 6);
        life("soap", 5);

        says(T, "\"place\" (its X),");
        BubbleLeases z = after("tenant 99 99;tenant 99 0;", "blow 0 1;blow 1 1;");
        Bench.law(z, "place - 49");
        answers("at both ends", new int[] {z.bubble(0, 3), z.bubble(1, 3)}, 50, 1);
        Bench.law(z, "place + 7");
        due("at 0", z.bubble(1, 3), 7);
        Bench.work(z, "run 1 50;east 9;");
        due("where the bubble is, not who blew it", z.bubble(1, 3), 16);
        life("place - 70", 7);
    }

    private static void lawWalls() {
        says(T, "\"walls\" (how many BUBBLES touch it by now),");
        BubbleLeases x = full();
        Bench.law(x, "walls + 7");
        due("four", x.bubble(2, 3), 11);
        BubbleLeases y = after("tenant 99 10;tenant 99 20;tenant 99 31;", "blow 0 5;");
        Bench.law(y, "walls + 7");
        due("none", y.bubble(0, 3), 7);
        Bench.work(y, "blow 1 5;");
        due("as far apart as both S", y.bubble(0, 3), 8);
        Bench.work(y, "blow 2 5;");
        answers("one farther apart than both S", new int[] {y.bubble(0, 3), y.bubble(1, 3), y.bubble(2, 3)}, 8, 8, 7);
        Bench.work(y, "west 11;");
        answers("one is gone", new int[] {y.bubble(1, 3), y.bubble(2, 3)}, 7, 7);
    }

    private static void lawWorth() {
        says(T, "\"worth\" (WORTH of all VIEWS that are HAD by it by now),");
        // 0 and 1 SEE the VIEW at 20, 1 is nearer; the VIEW at 2 is 0's alone.
        BubbleLeases x = after("view 20 9;view 2 4;view 60 30;tenant 99 10;tenant 99 22;", "blow 0 15;");
        Bench.law(x, "worth + 7");
        due("it alone", x.bubble(0, 3), 20);
        Bench.work(x, "blow 1 5;");
        answers("had, not seen alone", new int[] {x.bubble(0, 3), x.bubble(1, 3)}, 11, 16);
        Bench.work(x, "east 20;");
        answers("by now: one has another one's, and that one none", new int[] {x.bubble(0, 3), x.bubble(1, 3)}, 16, 7);
        BubbleLeases y = full();
        Bench.law(y, "worth - 430");
        answers("480 at most, and none", new int[] {y.bubble(0, 3), y.bubble(1, 3)}, 50, 1);
    }

    private static void lawCounts() {
        says(T, "\"breath\" (BREATHS by now), \"blown\" (how many were blown by now), \"tenant\" (the number of whose it is),");
        BubbleLeases x = after("tenant 99 10;".repeat(5), "blow 4 1;");
        Bench.law(x, "breath + 7");
        due("breath 0", x.bubble(4, 3), 7);
        Bench.work(x, "breath;breath;");
        due("breath 2", x.bubble(4, 3), 9);
        Bench.law(x, "blown + 7");
        due("1 blown", x.bubble(4, 3), 8);
        Bench.work(x, "west 20;blow 4 1;blow 4 1;");
        due("2 blown, one of which burst, one refused", x.bubble(4, 3), 9);
        Bench.law(x, "tenant + 7");
        due("tenant 4", x.bubble(4, 3), 11);
        Bench.work(x, "sell 4 0 0;");
        due("tenant 0, by whom it was not blown", x.bubble(0, 3), 7);
        life("breath - 360", 40);
        life("blown - 990", 9);
        life("tenant", 3);
    }

    private static void lawBrackets() {
        says(T, "\"least\" \"[\" E \",\" E \"]\", \"most\" \"[\" E \",\" E \"]\", or \"(\" E \")\".");
        life("least[5,6]", 5);
        life("least[6,5]", 5);
        life("least[5,5]", 5);
        life("most[5,6]", 6);
        life("most[6,5]", 6);
        life("most[0-9,0-8]+20", 12);
        life("least[0-9,0-8]+20", 11);
        life("least[1+1,9]*most[1,3]", 6);
        life("20-(6-2)", 16);
        life("(20-6)*(2)", 28);
        life("((7))", 7);
        lawFault("()", 1, 1);
        lawFault("(7", 1, 2);
        lawFault("(7]", 1, 2);
        lawFault("(7,7)", 1, 2);
        lawFault("least[7]", 1, 7);
        lawFault("least[7,7,7]", 1, 9);
        lawFault("least[7,7)", 1, 9);
        lawFault("least[7,7", 1, 9);
        lawFault("least(7,7)", 1, 5);
        lawFault("most[,7]", 1, 5);
        lawFault("most[7,]", 1, 7);
        lawFault("most", 1, 4);
        lawFault("[7]", 1, 0);
    }

    private static void lawWraps() {
        says(T, "Values are whole numbers of 32 bits that wrap;");
        life("256*256*256*127", 60);
        life("256*256*256*128", 1);
        life("256*256*256*128-1", 60);
        life("(256*256*256*128-1)+1", 1);
        life("0-256*256*256*128-1", 60);
        life("256*256*256*256", 1);
        life("256*256*256*256+7", 7);
        life("(256*256*256*256*256+14)/2", 7);
        life("least[256*256*256*128,5]+30", 1);
        life("least[256*256*256*128-1,5]+30", 35);
        life("most[256*256*256*128,5]+30", 35);
    }

    private static void lawDivides() {
        says(T, "/ cuts, % leaves (with the sign of what is divided), by 0 both are 0.");
        life("7/2", 3);
        life("10+(0-7)/2", 7);
        life("10+7/(0-2)", 7);
        life("10+(0-7)/(0-2)", 13);
        life("7%4", 3);
        life("10+(0-7)%4", 7);
        life("10+7%(0-4)", 13);
        life("10+(0-7)%(0-4)", 7);
        life("10+8%4", 10);
        life("10+9/0", 10);
        life("10+9%0", 10);
        life("10+0/0", 10);
        life("10+(0-9)/(size-6)", 10);
        life("10+9%(walls-4)*5", 10);
        // The least value by -1 is what wraps of it: itself, and nothing is left.
        life("256*256*256*128/(0-1)", 1);
        life("256*256*256*128/(0-1)-1", 60);
        life("256*256*256*128%(0-1)+7", 7);
    }

    // ---- WORK

    private static BubbleLeases five() {
        return at(FIVE);
    }

    private static void workText() {
        says(T, "WORK is a text of up to 150 bytes: { STEP \";\" }.");
        right(Edge::three, Bench::work, "", 0);
        right(Edge::three, Bench::work, "  ", 0);
        BubbleLeases x = three();
        due("25 of six bytes", Bench.work(x, "keep0;".repeat(24) + "east1;"), 0);
        due("25 were refused", x.told(10), 25);
        due("three bytes of 150 are blanks", Bench.work(x, "breath;".repeat(21) + "   "), 21);
        faulty(Edge::three, Bench::work, " ".repeat(144) + "breath", 1, 150);
        right(Edge::three, Bench::work, " ".repeat(143) + "breath;", 1);
        Make longer = () -> {
            BubbleLeases y = three();
            Bench.feed(y, " ".repeat(151));
            return y;
        };
        allowed("work(150)", longer, y -> y.work(150));
        wrong("work(151)", longer, y -> y.work(151));
        faulty(Edge::three, Bench::work, ";", 1, 0);
        faulty(Edge::three, Bench::work, "breath;;", 1, 7);
        faulty(Edge::three, Bench::work, "breath breath;", 1, 7);
    }

    private static void workSteps() {
        says(T, "STEP: \"blow\" T S (S 1 to 20),");
        number(Edge::three, Bench::work, "blow ", 0, 2, " 5;");
        number(TextEdges::five, Bench::work, "blow ", 0, 4, " 5;");
        number(Edge::three, Bench::work, "blow 0 ", 1, 20, ";");
        faulty(Edge::fresh, Bench::work, "blow 0 5;", 2, 5);
        faulty(Edge::three, Bench::work, "blow 0;", 1, 6);
        faulty(Edge::three, Bench::work, "blow 0 5 5;", 1, 9);

        says(T, "\"east\" N (1 to 20), \"west\" N (likewise),");
        number(Edge::three, Bench::work, "east ", 1, 20, ";");
        number(Edge::three, Bench::work, "west ", 1, 20, ";");
        right(Edge::fresh, Bench::work, "east 20;west 1;", 0);
        faulty(Edge::three, Bench::work, "east;", 1, 4);
        faulty(Edge::three, Bench::work, "west 1 1;", 1, 7);

        says(T, "\"run\" T X (0 to 99),");
        number(Edge::three, Bench::work, "run ", 0, 2, " 5;");
        number(TextEdges::five, Bench::work, "run ", 0, 4, " 5;");
        number(Edge::three, Bench::work, "run 0 ", 0, 99, ";");
        faulty(Edge::fresh, Bench::work, "run 0 5;", 2, 4);
        faulty(Edge::three, Bench::work, "run 0;", 1, 5);

        says(T, "\"sell\" T T N (0 to 99),");
        number(Edge::three, Bench::work, "sell ", 0, 2, " 1 5;");
        number(Edge::three, Bench::work, "sell 1 ", 0, 2, " 5;");
        number(TextEdges::five, Bench::work, "sell ", 0, 4, " 1 5;");
        number(TextEdges::five, Bench::work, "sell 1 ", 0, 4, " 5;");
        number(Edge::three, Bench::work, "sell 0 1 ", 0, 99, ";");
        faulty(Edge::three, Bench::work, "sell 0 1;", 1, 8);
        faulty(Edge::fresh, Bench::work, "sell 0 0 0;", 2, 5);

        says(T, "\"keep\" T, \"breath\",");
        number(Edge::three, Bench::work, "keep ", 0, 2, ";");
        number(TextEdges::five, Bench::work, "keep ", 0, 4, ";");
        faulty(Edge::fresh, Bench::work, "keep 0;", 2, 5);
        faulty(Edge::three, Bench::work, "keep;", 1, 4);
        right(Edge::fresh, Bench::work, "breath;", 1);
        faulty(Edge::three, Bench::work, "breath 1;", 1, 7);
    }

    private static void workAgain() {
        says(T, "or \"again\" N \"[\" { STEP \";\" } \"]\" (N 0 to 30).");
        number(Edge::three, Bench::work, "again ", 0, 30, "[breath;];");
        right(Edge::three, Bench::work, "again 0[breath;];", 0);
        right(Edge::three, Bench::work, "again 1[breath;];", 1);
        right(Edge::three, Bench::work, "again 30[breath;];", 30);
        right(Edge::three, Bench::work, "again 30[];breath;", 1);
        right(Edge::three, Bench::work, "again 2[breath;again 3[breath;];breath;];breath;", 11);
        faulty(Edge::three, Bench::work, "again[breath;];", 1, 5);
        faulty(Edge::three, Bench::work, "again 1 breath;", 1, 8);
        faulty(Edge::three, Bench::work, "again 1(breath;);", 1, 7);
        faulty(Edge::three, Bench::work, "again 1[breath];", 1, 14);
        faulty(Edge::three, Bench::work, "again 1[;];", 1, 8);
        faulty(Edge::three, Bench::work, "again 1[breath;;];", 1, 15);
        faulty(Edge::three, Bench::work, "again 1[breath;]", 1, 16);
        faulty(Edge::three, Bench::work, "again 1[breath;]breath;", 1, 16);
        faulty(Edge::three, Bench::work, "again 1[breath;", 1, 15);
        faulty(Edge::three, Bench::work, "again 0[blow 9 1;];", 2, 13);
        faulty(Edge::three, Bench::work, "breath;];", 1, 7);
    }

    // ---- BOOK

    private static BubbleLeases eight() {
        return at("view 5 1;".repeat(8));
    }

    private static void bookText() {
        says(T, "A BOOK is one of up to 60 bytes: { V T \";\" }, no V twice:");
        right(Edge::three, Bench::book, "", 0);
        right(Edge::three, Bench::book, "  ", 0);
        right(Edge::three, Bench::book, " ".repeat(56) + "0 5;", 1);
        faulty(Edge::three, Bench::book, " ".repeat(57) + "0 5", 1, 60);
        Make longer = () -> {
            BubbleLeases x = three();
            Bench.feed(x, " ".repeat(61));
            return x;
        };
        allowed("book(60)", longer, x -> x.book(60));
        wrong("book(61)", longer, x -> x.book(61));
        String all = "7 5;6 5;5 5;4 5;3 5;2 5;1 5;0 5;";
        right(TextEdges::eight, Bench::book, all, 8);
        for (int v = 0; v < 8; v++) {
            faulty(TextEdges::eight, Bench::book, all + v + " 5;", 2, 32);
        }
        faulty(Edge::three, Bench::book, "2 1;2 1;", 2, 4);
        faulty(Edge::three, Bench::book, "2 1;02 1;", 2, 4);
        faulty(Edge::three, Bench::book, "2;", 1, 1);
        faulty(Edge::three, Bench::book, "2 1 1;", 1, 4);
        faulty(Edge::three, Bench::book, "2 1", 1, 3);
        faulty(Edge::three, Bench::book, ";", 1, 0);
        faulty(Edge::three, Bench::book, "2 1;;", 1, 4);

        says(T, "VIEW V is had by TENANT T (0 to 4, told or not), or by none (5).");
        number(Edge::three, Bench::book, "", 0, 3, " 5;");
        number(TextEdges::eight, Bench::book, "", 0, 7, " 5;");
        number(Edge::three, Bench::book, "0 ", 0, 5, ";");
        number(TextEdges::eight, Bench::book, "0 ", 0, 5, ";");
        faulty(Edge::fresh, Bench::book, "0 5;", 2, 0);
    }

    private static void bookLines() {
        // Still under "told or not": what such lines are worth shows by the pairs that fit.
        BubbleLeases x = at("view 10 5;tenant 99 10;");
        Bench.book(x, "0 0;");
        due("all sizes of 0 have it", x.fits(0), 20);
        Bench.book(x, "0 4;");
        due("4 is not told, and has nothing", x.fits(0), 0);
        Bench.book(x, "0 5;");
        due("none has it by no pair", x.fits(0), 0);
        BubbleLeases y = at("view 90 5;tenant 99 10;");
        Bench.book(y, "0 5;");
        due("none has it by all pairs", y.fits(0), 20);
        Bench.book(y, "0 1;");
        due("1 is not told, which is not none", y.fits(0), 0);
    }
}
