/** The Terms up to ==== 2: numbers, words, blanks, and FAULTS. */
final class FaultEdges extends Edge {
    private static final int T = Doc.TERMS;

    static void run() {
        numbers();
        words();
        blanks();
        theFirst();
        whatCannotStand();
        noSuchNumber();
        tooMany();
        sevenOpen();
        ofOneTheLeast();
    }

    private static void cornerFault(String text, int kind, int place) {
        faulty(Edge::fresh, Bench::corner, text, kind, place);
    }

    private static void lawFault(String text, int kind, int place) {
        faulty(Edge::fresh, Bench::law, text, kind, place);
    }

    private static void workFault(String text, int kind, int place) {
        faulty(Edge::three, Bench::work, text, kind, place);
    }

    private static void bookFault(String text, int kind, int place) {
        faulty(Edge::three, Bench::book, text, kind, place);
    }

    private static void numbers() {
        says(T, "Numbers: digits, as many as stand there;");
        String zeros = "0".repeat(120);
        BubbleLeases x = at("view " + zeros + "99 " + zeros + "60;tenant 0099 00099;soap 020;");
        answers("naughts ahead", new int[] {x.view(0, 0), x.view(0, 1), x.tenant(0, 0), x.tenant(0, 1), x.told(2)}, 99, 60, 99, 99, 20);
        right(Edge::three, Bench::work, "blow" + zeros + "2 020;", 1);
        right(Edge::three, Bench::book, "003 " + "0".repeat(40) + "5;", 1);
        BubbleLeases y = fresh();
        due("a law of naughts and 7", Bench.law(y, zeros + "7"), 1);
        due("is 7", y.would(1, 1, 0, 0, 0, 0, 0, 0), 7);
        cornerFault("view 55;", 1, 7);
        cornerFault("soap 1 1;", 1, 7);
        cornerFault("soap 1a;", 1, 6);
        cornerFault("soap 0x1;", 2, 5);
        cornerFault("soap 1.5;", 1, 6);
        cornerFault("soap +1;", 1, 5);
        cornerFault("view 100" + zeros + " 1;", 2, 5);
        cornerFault("soap " + zeros + "21;", 2, 5);
        // 47 and 58 stand just outside the digits.
        cornerFault("soap /;", 1, 5);
        cornerFault("soap :;", 1, 5);
        cornerFault("soap 1/;", 1, 6);
        cornerFault("soap 1:;", 1, 6);
        right(Edge::fresh, Bench::corner, "soap 9;", 0);
    }

    private static void words() {
        says(T, "WORDS: small letters, as many as stand there;");
        right(Edge::fresh, Bench::corner, "view5 5;tenant5 5;soap5;", 1);
        cornerFault("views 5 5;", 1, 0);
        cornerFault("vie 5 5;", 1, 0);
        cornerFault("viewview 5 5;", 1, 0);
        cornerFault("viewsoap 5;", 1, 0);
        cornerFault("vi ew 5 5;", 1, 0);
        cornerFault("View 5 5;", 1, 0);
        cornerFault("vieW 5 5;", 1, 0);
        cornerFault("viewX5 5;", 1, 4);
        cornerFault("blow 5 5;", 1, 0);
        // 96 and 123 stand just outside the small letters.
        cornerFault("`soap 5;", 1, 0);
        cornerFault("{soap 5;", 1, 0);
        cornerFault("soap{5;", 1, 4);
        cornerFault("soap`5;", 1, 4);
        cornerFault("zsoap 5;", 1, 0);
        cornerFault("soapa 5;", 1, 0);
        lawFault("sizesize", 1, 0);
        lawFault("siz", 1, 0);
        lawFault("Size", 1, 0);
        lawFault("leastmost[1,1]", 1, 0);
        lawFault("size5", 1, 4);
        lawFault("view", 1, 0);
        right(Edge::fresh, Bench::law, "size*soap+walls-place/worth%breath+blown-tenant", 1);
        workFault("breathe;", 1, 0);
        workFault("breat;", 1, 0);
        workFault("breathbreath;", 1, 0);
        workFault("size;", 1, 0);
        right(Edge::three, Bench::work, "blow0 1;east1;run0 0;again1[breath;];", 4);
        spoilt(Edge::fresh, Bench::corner, "view", " 5 5;", "tenant", " 5 5;", "soap", " 5;");
        spoilt(Edge::fresh, Bench::law, "size", "", "soap", "", "walls", "", "place", "", "worth", "", "breath", "", "blown", "", "tenant", "",
                "least", "[1,1]", "most", "[1,1]");
        spoilt(Edge::three, Bench::work, "blow", " 0 1;", "east", " 1;", "west", " 1;", "run", " 0 1;", "sell", " 0 1 1;", "keep", " 0;",
                "breath", ";", "again", " 1[];");
        bookFault("view 0 0;", 1, 0);
    }

    /** Words and what comes behind them: right as they are, a FAULT with any letter another one, left out or twice. */
    private static void spoilt(Make make, Take take, String... pairs) {
        for (int p = 0; p < pairs.length; p += 2) {
            String word = pairs[p];
            due("'" + word + pairs[p + 1] + "' is right", take.take(make.make(), word + pairs[p + 1]) >= 0 ? 1 : 0, 1);
            for (int i = 0; i < word.length(); i++) {
                String ahead = word.substring(0, i);
                String behind = word.substring(i + 1) + pairs[p + 1];
                faulty(make, take, ahead + "q" + behind, 1, 0);
                faulty(make, take, ahead + behind, 1, 0);
                faulty(make, take, ahead + word.charAt(i) + word.charAt(i) + behind, 1, 0);
            }
        }
    }

    private static void blanks() {
        says(T, "blanks (32) may stand ahead of all these, and at the end.");
        right(Edge::fresh, Bench::corner, "  view  5  5  ;  tenant  5  5  ;  soap  5  ;  ", 1);
        right(Edge::fresh, Bench::corner, "view5 5;tenant5 5;soap5;", 1);
        right(Edge::fresh, Bench::law, "  least  [  (  1  +  2  )  ,  3  -  size  *  2  /  1  %  5  ]  ", 1);
        right(Edge::three, Bench::work, "  blow  0  1  ;  again  2  [  breath  ;  ]  ;  ", 3);
        right(Edge::three, Bench::work, "again 2 [ ] ; ", 0);
        right(Edge::three, Bench::book, "  0  5  ;  1  5  ;  ", 2);
        for (char other : new char[] {0, 9, 10, 13, 31, 33, 127, 128, 160, 255}) {
            cornerFault(other + "soap 5;", 1, 0);
            cornerFault("soap" + other + "5;", 1, 4);
            cornerFault("soap 5" + other + ";", 1, 6);
            cornerFault("soap 5;" + other, 1, 7);
            lawFault("7" + other, 1, 1);
            workFault("breath;" + other, 1, 7);
            bookFault("0 5;" + other, 1, 4);
        }
        cornerFault("so ap 5;", 1, 0);
        cornerFault("view 5 5 5;", 1, 9);
        lawFault("1 2", 1, 2);
    }

    private static void theFirst() {
        says(T, "FAULTS, the first from the left, at its first byte:");
        cornerFault("view 100 61;", 2, 5);
        cornerFault("view 99 61;x", 2, 8);
        cornerFault("soap 021;soaps", 2, 5);
        cornerFault("soap 5;   soaps 21;", 1, 10);
        cornerFault("soap    21", 2, 8);
        cornerFault("soap x 21;", 1, 5);
        cornerFault("view 5 5;".repeat(8) + "soap 21;view 5 5;", 2, 77);
        cornerFault("view 5 5;".repeat(8) + "view 100 x", 3, 72);
        lawFault("1000+(((((((", 2, 0);
        lawFault("1+1000+", 2, 2);
        lawFault("(((((((1000", 3, 6);
        lawFault("1+  )1000", 1, 4);
        workFault("blow 9 21;", 2, 5);
        workFault("breath;blow 0   21;breathe;", 2, 16);
        workFault("sell 0 9 100;", 2, 7);
        workFault("breathe;blow 9 9;", 1, 0);
        bookFault("0 5;4 6;", 2, 4);
        bookFault("0 6;0 6;", 2, 2);
        bookFault("0 5;0 6;", 2, 4);
    }

    private static void whatCannotStand() {
        says(T, "1 what can't stand there (at the length, if the text ends too early);");
        for (String cut : new String[] {"view", "view 5", "view 5 5", "tenant", "tenant 5", "tenant 5 5", "soap", "soap 5"}) {
            cornerFault(cut, 1, cut.length());
            cornerFault(cut + "   ", 1, cut.length() + 3);
            cornerFault("soap 1; " + cut, 1, cut.length() + 8);
        }
        for (String cut : new String[] {"", "(", "1+", "1*", "(1", "least", "least[", "least[1", "least[1,", "least[1,1", "most[1,(1)"}) {
            lawFault(cut, 1, cut.length());
            lawFault(cut + "   ", 1, cut.length() + 3);
        }
        for (String cut : new String[] {"blow", "blow 0", "blow 0 1", "east", "west 1", "run 0", "sell 0 1", "sell 0 1 1", "keep", "keep 0",
            "breath", "again", "again 1", "again 1[", "again 1[breath", "again 1[breath;", "again 1[]"}) {
            workFault(cut, 1, cut.length());
            workFault(cut + "   ", 1, cut.length() + 3);
        }
        for (String cut : new String[] {"0", "0 5", "0 5;1", "0 5;1 5"}) {
            bookFault(cut, 1, cut.length());
            bookFault(cut + "   ", 1, cut.length() + 3);
        }
        cornerFault("5 5;", 1, 0);
        cornerFault("view ;", 1, 5);
        cornerFault("view view 5 5;", 1, 5);
        workFault("blow blow;", 1, 5);
        bookFault("0 a;", 1, 2);
        lawFault("1 + )", 1, 4);
    }

    private static void noSuchNumber() {
        says(T, "2 a number that is none such (a V twice in a BOOK);");
        cornerFault("soap 0;", 2, 5);
        cornerFault("soap 21;", 2, 5);
        lawFault("1000", 2, 0);
        workFault("keep 3;", 2, 5);
        bookFault("4 5;", 2, 0);
        bookFault("3 5;3 5;", 2, 4);
        bookFault("3 5;3", 2, 4);
        bookFault("3 5;3 9", 2, 4);
        bookFault("0 1;1 1;2 1;3 1;  0 1;", 2, 18);
        right(Edge::three, Bench::book, "0 3;3 0;1 1;2 1;", 4);
    }

    private static void tooMany() {
        says(T, "3 a CLAUSE, VIEW or TENANT too many (at its word),");
        cornerFault("soap 1;".repeat(60) + "  soap 1;", 3, 422);
        cornerFault("soap 1;".repeat(60) + "view", 3, 420);
        cornerFault("soap 1;".repeat(60) + "tenant 100", 3, 420);
        cornerFault("view 5 5;".repeat(8) + "  view 5 5;", 3, 74);
        cornerFault("view 5 5;".repeat(8) + "view", 3, 72);
        cornerFault("tenant 5 5;".repeat(5) + "  tenant 5 5;", 3, 57);
        cornerFault("tenant 5 5;".repeat(5) + "tenant;", 3, 55);
        right(Edge::fresh, Bench::corner, "view 5 5;".repeat(8) + "tenant 5 5;".repeat(5) + "soap 5;", 5);
        right(Edge::fresh, Bench::corner, "soap 1;".repeat(60) + "   ", 0);
    }

    private static void sevenOpen() {
        says(T, "or a 7th of ( least most again that is open at one time;");
        right(Edge::fresh, Bench::law, "((((((7))))))", 1);
        right(Edge::fresh, Bench::law, "((((((7))))))+((((((7))))))", 1);
        right(Edge::fresh, Bench::law, "(1)+(1)+(1)+(1)+(1)+(1)+(1)+(1)", 1);
        right(Edge::fresh, Bench::law, "least[(((((1))))),(((((1)))))]", 1);
        right(Edge::fresh, Bench::law, "most[least[most[least[most[least[1,1],1],1],1],1],1]", 1);
        lawFault("(((((((7)))))))", 3, 6);
        lawFault("((((((  (7)))))))", 3, 8);
        lawFault("((((((7))))))+(((((((7", 3, 20);
        lawFault("((((((least[1,1]))))))", 3, 6);
        lawFault("((((((  most", 3, 8);
        lawFault("least[((((((1", 3, 11);
        lawFault("least[1,((((((1", 3, 13);
        lawFault("most[least[most[least[most[least[most", 3, 33);
        lawFault("least[1,least[1,least[1,least[1,least[1,least[1,(1", 3, 48);
        lawFault("((((((1+(1", 3, 8);
        lawFault("((((((1)+(1", 1, 11);
        String six = "again 1[".repeat(6);
        right(Edge::three, Bench::work, six + "breath;" + "];".repeat(6), 1);
        right(Edge::three, Bench::work, "again 1[];".repeat(15), 0);
        right(Edge::three, Bench::work, six + "];".repeat(6) + six + "];".repeat(6), 0);
        workFault(six + "again 1[];" + "];".repeat(6), 3, 48);
        workFault(six + "  again", 3, 50);
        workFault(six + "];again 1[again 1[];", 3, 58);
    }

    private static void ofOneTheLeast() {
        says(T, "of one the least.");
        // At one byte: a word that can't stand there, of a 61st CLAUSE; a sign that can't, a 7th of its kind.
        cornerFault("soap 1;".repeat(60) + "soaps 1;", 1, 420);
        cornerFault("soap 1;".repeat(60) + ";", 1, 420);
        cornerFault("soap 1;".repeat(60) + "7", 1, 420);
        cornerFault("soap 1;".repeat(52) + "view 5 5;".repeat(8) + "view 5 5;", 3, 436);
        lawFault("((((((7(", 1, 7);
        lawFault("((((((7 least", 1, 8);
        lawFault("((((((leasts", 1, 6);
        workFault("again 1[".repeat(6) + "agains", 1, 48);
        workFault("again 1[".repeat(6) + "breath again", 1, 55);
    }
}
