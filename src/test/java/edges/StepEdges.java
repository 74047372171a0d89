import java.util.List;

/** The Terms from ==== 2 on: BUBBLES, and what each STEP does or why it is REFUSED. */
final class StepEdges extends Edge {
    private static final int T = Doc.TERMS;

    static void run() {
        atFirst();
        oneBubble();
        sees();
        had();
        touch();
        inOrder();
        refusedSteps();
        twoHundred();
        leftOut();
        blowPays();
        blowPlace();
        blowRefused();
        east();
        west();
        noWind();
        runs();
        sells();
        sellsRefused();
        keeps();
        keepsRefused();
        breath400();
        breathLife();
        breathAtOnce();
        breathOneMore();
        burst();
    }

    private static void done(String what, BubbleLeases x, String work, int done, int refused) {
        due(what + ": done", Bench.work(x, work), done);
        due(what + ": refused", x.told(10), refused);
    }

    /** A WORK of one STEP that is REFUSED, and changes nothing; a LAW at fault ahead of it leaves the TAPE empty. */
    private static void refused(String what, BubbleLeases x, String step) {
        x.law(0);
        List<Long> ahead = changing(x);
        done(what, x, step, 0, 1);
        due(what + ": nothing is changed", changing(x).equals(ahead) ? 1 : 0, 1);
    }

    private static void atFirst() {
        says(T, "It is BREATH 0 at first, there are no BUBBLES, nobody paid anything.");
        BubbleLeases x = after("tenant 99 99;", "blow 0 1;breath;");
        Bench.corner(x, Bench.CORNER);
        answers("first", new int[] {x.told(3), x.told(4), x.told(5), x.told(6), x.told(7)}, 0, 0, 0, 0, 34);
        for (int t = 0; t < 3; t++) {
            answers("tenant " + t, new int[] {x.tenant(t, 0), x.tenant(t, 2), x.bubble(t, 0)}, new int[] {20, 5, 9}[t], 0, NONE);
        }
    }

    private static void oneBubble() {
        says(T, "A TENANT has one BUBBLE at the most;");
        BubbleLeases x = after("tenant 99 10;tenant 99 60;", "blow 0 5;blow 0 6;");
        answers("one of two", new int[] {x.told(10), x.told(5), x.bubble(0, 0)}, 1, 1, 5);
        done("to one who has one", x, "blow 1 7;sell 0 1 0;", 1, 1);
        done("one more when it is sold", x, "east 20;east 20;sell 0 1 0;blow 0 6;", 4, 0);
        done("one more when it burst", x, "west 20;blow 0 8;", 2, 0);
        due("its size", x.bubble(0, 0), 8);

        says(T, "it has a SIZE S, a place X and an AGE.");
        BubbleLeases y = after("tenant 99 10;tenant 99 60;", "blow 0 20;east 3;breath;blow 1 1;breath;");
        answers("the first", new int[] {y.bubble(0, 0), y.bubble(0, 1), y.bubble(0, 2)}, 20, 13, 2);
        answers("the second", new int[] {y.bubble(1, 0), y.bubble(1, 1), y.bubble(1, 2)}, 1, 60, 1);
    }

    private static void sees() {
        says(T, "It SEES a VIEW that is no farther than S from its X;");
        for (int s = 1; s <= 20; s++) {
            int[] places = {50 - s, 50 + s, 50 - s - 1, 50 + s + 1, 50};
            int[] due = {1, 1, 0, 0, 1};
            for (int i = 0; i < places.length; i++) {
                BubbleLeases x = after("view 50 5;tenant 99 " + places[i] + ";", "blow 0 " + s + ";");
                due("S " + s + " at " + places[i] + " sees 50", x.view(0, 3), due[i]);
                due("S " + s + " at " + places[i] + " sees 50, as bits", x.bubble(0, 4), due[i]);
            }
        }
        BubbleLeases x = after("view 0 5;view 99 5;tenant 99 0;tenant 99 99;", "blow 0 1;blow 1 1;");
        answers("at the ends", new int[] {x.bubble(0, 4), x.bubble(1, 4)}, 1, 2);
    }

    private static void had() {
        says(T, "a VIEW is HAD by that BUBBLE, of all that SEE it, whose X is nearest to it,"
                + " of alike ones by that of the TENANT with the least number.");
        String corner = "view 50 5;tenant 99 52;tenant 99 48;tenant 99 51;tenant 99 50;";
        due("none sees it", at(corner).view(0, 2), NONE);
        due("alone", after(corner, "blow 1 2;").view(0, 2), 1);
        due("alike on both sides: the least number", after(corner, "blow 1 2;blow 0 2;").view(0, 2), 0);
        due("alike, whatever their sizes", after(corner, "blow 1 20;blow 0 2;").view(0, 2), 0);
        due("one nearer, be its number greater", after(corner, "blow 0 20;blow 1 20;blow 2 1;").view(0, 2), 2);
        due("right there", after(corner, "blow 0 20;blow 1 20;blow 2 20;blow 3 1;").view(0, 2), 3);
        due("nearer, but it does not see it", after(corner, "blow 0 1;").view(0, 2), NONE);
        due("farther, but it sees it", after(corner, "blow 0 1;run 1 30;blow 1 20;").view(0, 2), 1);
        due("at one place", full().view(7, 2), 0);
    }

    private static void touch() {
        says(T, "Two BUBBLES TOUCH, if their X are no farther apart than both their S together.");
        int[][] sizes = {{1, 1}, {1, 20}, {20, 1}, {20, 20}, {7, 4}};
        for (int[] s : sizes) {
            for (int more = -1; more <= 1; more++) {
                int apart = s[0] + s[1] + more;
                String work = "blow 0 " + s[0] + ";blow 1 " + s[1] + ";";
                BubbleLeases x = after("tenant 99 30;tenant 99 " + (30 + apart) + ";", work);
                BubbleLeases y = after("tenant 99 " + (30 + apart) + ";tenant 99 30;", work);
                answers("apart by " + apart, new int[] {x.told(11), x.tenant(0, 5), x.tenant(1, 5), y.told(11)},
                        more > 0 ? new int[] {0, 0, 0, 0} : new int[] {1, 2, 1, 1});
            }
        }
        due("one touches nothing, not itself either", after("tenant 9 5;", "blow 0 20;").tenant(0, 5), 0);
    }

    private static void inOrder() {
        says(T, "STEPS are done in order;");
        due("run, then blow", after(Bench.CORNER, "run 0 20;blow 0 5;").bubble(0, 1), 20);
        due("blow, then run", after(Bench.CORNER, "blow 0 5;run 0 20;").bubble(0, 1), 12);
        BubbleLeases x = at(Bench.CORNER);
        done("refused, then not", x, "keep 0;blow 0 5;keep 0;breath;keep 0;", 3, 2);
        due("agains in their place", after("tenant 99 10;", "blow 0 5;again 2[east 3;breath;keep 0;];breath;").bubble(0, 2), 2);
    }

    private static void refusedSteps() {
        says(T, "one that can't be done is REFUSED, and changes nothing;");
        for (String step : new String[] {"blow 0 1;", "blow 2 1;", "run 0 12;", "run 2 80;", "sell 0 0 0;", "sell 0 1 0;", "keep 2;"}) {
            refused(step, rich(), step);
        }
        refused("no bubbles: east", at(Bench.CORNER), "east 1;");
        refused("no bubbles: west", at(Bench.CORNER), "west 20;");
        refused("no bubbles: keep", at(Bench.CORNER), "keep 0;");
        refused("no bubbles: sell", at(Bench.CORNER), "sell 0 1 0;");
        refused("no money", at("tenant 0 5;"), "blow 0 1;");
        done("what comes behind is done", at(Bench.CORNER), "east 1;blow 0 1;blow 0 1;breath;", 2, 2);
    }

    private static void twoHundred() {
        says(T, "200 STEPS at most are begun by one WORK (an again, too, each time it is come to; REFUSED ones, too),");
        // 1 and 11 times (1 and 17) are 199.
        BubbleLeases x = at("tenant 99 10;");
        done("the 200th is done, the 201st is not", x, "again 11[again 17[breath;];];breath;breath;", 188, 0);
        due("breaths", x.told(3), 188);
        done("refused ones are begun", at("tenant 99 10;"), "again 11[again 17[keep 0;];];breath;breath;", 1, 187);
        done("an again is the 200th", at("tenant 99 10;"), "again 11[again 17[breath;];];again 1[breath;];", 187, 0);
        done("an again of 0 is begun", at("tenant 99 10;"), "again 11[again 17[breath;];];again 0[breath;];breath;", 187, 0);
        done("an empty again is begun", at("tenant 99 10;"), "again 11[again 17[breath;];];again 30[];breath;", 187, 0);
        done("an again each time it is come to", at("tenant 99 10;"), "again 30[again 0[];];again 30[again 0[];];again 30[again 0[];];"
                + "again 30[again 0[];];again 30[again 0[];];again 30[again 0[];];breath;", 1, 0);
        done("and 13 breaths beyond these 186", at("tenant 99 10;"), "again 30[again 0[];];".repeat(6) + "again 20[breath;];", 13, 0);
        // 1, 6 times 31, 1 and 12.
        done("cut within agains", at("tenant 99 10;"), "again 7[again 30[breath;];];", 192, 0);
        BubbleLeases y = at("tenant 99 10;");
        done("200 of one work", y, "again 30[again 30[breath;];];", 192, 0);
        done("the next begins anew", y, "again 30[again 30[breath;];];", 192, 0);
    }

    private static void leftOut() {
        says(T, "what would come behind is left out.");
        BubbleLeases x = at("tenant 99 10;");
        done("neither done nor refused", x, "again 30[again 30[breath;];];run 0 50;run 0 10;keep 0;", 192, 0);
        due("he stands where he stood", x.tenant(0, 1), 10);
        // 1, 9 times 20, 1 and 18: of ten runs to 1 the last is left out, of nine the first is done.
        done("the rest of a body, too", at("tenant 99 10;"), "again 30[again 9[breath;keep 0;];run 0 1;];", 91, 98);
    }

    private static void blowPays() {
        says(T, "blow: T pays 1, and 1 more for each 5 of S (cut),");
        int[] prices = {1, 1, 1, 1, 2, 2, 2, 2, 2, 3, 3, 3, 3, 3, 4, 4, 4, 4, 4, 5};
        for (int s = 1; s <= 20; s++) {
            BubbleLeases x = after("tenant 99 10;tenant 99 10;", "blow 0 " + s + ";");
            answers("S " + s, new int[] {x.tenant(0, 0), x.tenant(1, 0), x.told(7)}, 99 - prices[s - 1], 99, 198 - prices[s - 1]);
        }
    }

    private static void blowPlace() {
        says(T, "and has a BUBBLE of SIZE S at the X where he stands, AGE 0");
        BubbleLeases x = after("tenant 99 0;tenant 99 99;tenant 99 50;", "blow 0 1;blow 1 20;run 2 7;blow 2 10;run 2 9;");
        for (int t = 0; t < 3; t++) {
            answers("tenant " + t, new int[] {x.tenant(t, 2), x.bubble(t, 0), x.bubble(t, 1), x.bubble(t, 2)},
                    1, new int[] {1, 20, 10}[t], new int[] {0, 99, 7}[t], 0);
        }
        due("how many were blown", x.told(5), 3);
        BubbleLeases y = after("tenant 99 50;", "blow 0 1;breath;breath;east 20;east 20;east 20;blow 0 2;");
        answers("anew", new int[] {y.bubble(0, 0), y.bubble(0, 1), y.bubble(0, 2)}, 2, 50, 0);
    }

    private static void blowRefused() {
        says(T, "(REFUSED, if he has one, or not so much MONEY).");
        refused("he has one", after("tenant 99 10;", "blow 0 3;"), "blow 0 3;");
        int[] most = {4, 9, 14, 19, 20};
        for (int money = 1; money <= 5; money++) {
            String corner = "tenant " + money + " 10;";
            due("money " + money + " is enough for " + most[money - 1], after(corner, "blow 0 " + most[money - 1] + ";").tenant(0, 0), 0);
            if (money < 5) {
                refused("money " + money + " for one more", at(corner), "blow 0 " + (most[money - 1] + 1) + ";");
            }
        }
        refused("money 0", at("tenant 0 10;"), "blow 0 1;");
        done("the third is too dear", at("tenant 2 10;"), "blow 0 1;west 20;blow 0 1;west 20;blow 0 1;", 4, 1);
    }

    private static void east() {
        says(T, "east: the X of all BUBBLES is N more; those beyond 99 BURST.");
        String corner = "tenant 99 79;tenant 99 80;tenant 99 0;";
        BubbleLeases x = after(corner, "blow 0 1;blow 1 1;blow 2 1;east 20;");
        answers("places", new int[] {x.bubble(0, 1), x.bubble(1, 1), x.bubble(2, 1)}, 99, NONE, 20);
        answers("one burst", new int[] {x.told(4), x.told(6)}, 5, 1);
        answers("who stand do not move", new int[] {x.tenant(0, 1), x.tenant(1, 1), x.tenant(2, 1)}, 79, 80, 0);
        done("99 and 1", x, "east 1;", 1, 0);
        answers("one more burst", new int[] {x.told(4), x.told(6), x.bubble(2, 1)}, 4, 2, 21);
        BubbleLeases y = after("tenant 99 98;", "blow 0 20;east 1;");
        answers("by its X, not its S", new int[] {y.bubble(0, 1), y.told(6)}, 99, 0);
    }

    private static void west() {
        says(T, "west: N less; those below 0 BURST");
        String corner = "tenant 99 20;tenant 99 19;tenant 99 99;";
        BubbleLeases x = after(corner, "blow 0 1;blow 1 1;blow 2 1;west 20;");
        answers("places", new int[] {x.bubble(0, 1), x.bubble(1, 1), x.bubble(2, 1)}, 0, NONE, 79);
        answers("one burst", new int[] {x.told(4), x.told(6)}, 5, 1);
        done("0 less 1", x, "west 1;", 1, 0);
        answers("one more burst", new int[] {x.told(4), x.told(6), x.bubble(2, 1)}, 4, 2, 78);
        BubbleLeases y = after("tenant 99 1;", "blow 0 20;west 1;");
        answers("by its X, not its S", new int[] {y.bubble(0, 1), y.told(6)}, 0, 0);
    }

    private static void noWind() {
        says(T, "(both REFUSED, if there are none).");
        refused("none was blown: east", at("tenant 99 5;"), "east 20;");
        refused("none was blown: west", at("tenant 99 5;"), "west 20;");
        refused("no tenants: east", fresh(), "east 1;");
        refused("all burst: east", after("tenant 99 5;", "blow 0 1;west 6;"), "east 1;");
        refused("all burst: west", after("tenant 99 95;", "blow 0 1;east 5;"), "west 1;");
        done("the last one bursts, then none is there", at("tenant 99 5;"), "blow 0 1;west 6;west 6;", 2, 1);
    }

    private static void runs() {
        says(T, "run: T stands at X (REFUSED, if he does).");
        BubbleLeases x = after("tenant 99 50;tenant 99 51;", "run 0 0;");
        answers("he alone", new int[] {x.tenant(0, 1), x.tenant(1, 1), x.tenant(0, 0)}, 0, 51, 99);
        refused("he does, at 0", x, "run 0 0;");
        Bench.work(x, "run 0 99;");
        refused("he does, at 99", x, "run 0 99;");
        done("one less", x, "run 0 98;", 1, 0);
        done("where another one stands", x, "run 0 51;", 1, 0);
        done("where his bubble is", after("tenant 99 5;", "blow 0 1;run 0 6;"), "run 0 5;", 1, 0);
    }

    private static void sells() {
        says(T, "sell: the BUBBLE of the first T, as it is, is the second one's; that one pays N to the first one");
        BubbleLeases x = after("tenant 90 10;tenant 99 60;", "blow 0 20;breath;breath;east 7;sell 0 1 99;");
        answers("the second one's", new int[] {x.bubble(1, 0), x.bubble(1, 1), x.bubble(1, 2)}, 20, 17, 2);
        answers("the first one's", new int[] {x.bubble(0, 0), x.bubble(0, 1), x.tenant(0, 2), x.tenant(1, 2)}, NONE, NONE, 0, 1);
        answers("money, be it more than 99", new int[] {x.tenant(0, 0), x.tenant(1, 0), x.told(7)}, 184, 0, 184);
        answers("neither blown nor burst, nobody runs", new int[] {x.told(5), x.told(6), x.tenant(0, 1), x.tenant(1, 1)}, 1, 0, 10, 60);
        done("back, for nothing", x, "sell 1 0 0;", 1, 0);
        answers("money", new int[] {x.tenant(0, 0), x.tenant(1, 0)}, 184, 0);
        answers("it is as it was", new int[] {x.bubble(0, 0), x.bubble(0, 1), x.bubble(0, 2)}, 20, 17, 2);
        BubbleLeases y = after("tenant 90 10;tenant 80 20;tenant 70 30;tenant 60 40;tenant 50 50;", "blow 4 9;breath;west 3;sell 4 2 31;breath;run 4 9;");
        answers("from the last to another one, with more behind it", new int[] {y.told(4), y.bubble(2, 0), y.bubble(2, 1), y.bubble(2, 2)}, 4, 9, 47, 2);
        answers("their money", new int[] {y.tenant(0, 0), y.tenant(1, 0), y.tenant(2, 0), y.tenant(3, 0), y.tenant(4, 0)}, 90, 80, 39, 60, 79);
    }

    private static void sellsRefused() {
        says(T, "(REFUSED, if both are one, the first one has none, the second one has one, or not so much MONEY).");
        String corner = "tenant 9 10;tenant 9 60;tenant 0 90;";
        refused("both are one", after(corner, "blow 0 1;"), "sell 0 0 0;");
        refused("both are one, who has none", at(corner), "sell 0 0 0;");
        refused("the first one has none", at(corner), "sell 0 1 0;");
        refused("the first one has none, the second one has one", after(corner, "blow 1 1;"), "sell 0 1 0;");
        refused("the second one has one", after(corner, "blow 0 1;blow 1 1;"), "sell 0 1 0;");
        refused("not so much", after(corner, "blow 0 1;"), "sell 0 1 10;");
        refused("nothing at all", after(corner, "blow 0 1;"), "sell 0 2 1;");
        done("just so much", after(corner, "blow 0 1;"), "sell 0 1 9;", 1, 0);
        done("nothing for nothing", after(corner, "blow 0 1;"), "sell 0 2 0;", 1, 0);
        done("the first one's money is not asked", after(corner, "run 2 60;blow 1 1;sell 1 2 0;"), "sell 2 0 8;", 1, 0);
    }

    private static void keeps() {
        says(T, "keep: AGE of the BUBBLE of T is 0");
        BubbleLeases x = after("tenant 99 10;tenant 99 11;", "blow 0 1;blow 1 1;breath;breath;breath;keep 0;");
        answers("his alone", new int[] {x.bubble(0, 2), x.bubble(1, 2)}, 0, 3);
        answers("all else stays", new int[] {x.bubble(0, 0), x.bubble(0, 1), x.tenant(0, 0), x.told(3)}, 1, 10, 98, 3);
        Bench.work(x, "breath;");
        answers("it begins anew", new int[] {x.bubble(0, 2), x.bubble(1, 2)}, 1, 4);
    }

    private static void keepsRefused() {
        says(T, "(REFUSED, if he has none, it is 0, or he stands farther than S from its X).");
        String corner = "tenant 99 50;tenant 99 51;";
        refused("he has none", after(corner, "blow 1 1;breath;"), "keep 0;");
        refused("it is 0", after(corner, "blow 0 9;"), "keep 0;");
        refused("it is 0 again", after(corner, "blow 0 9;breath;keep 0;"), "keep 0;");
        for (int s = 1; s <= 20; s += 19) {
            String blown = "blow 0 " + s + ";breath;";
            done("as far as S to the west", after(corner, blown + "run 0 " + (50 - s) + ";"), "keep 0;", 1, 0);
            done("as far as S to the east", after(corner, blown + "run 0 " + (50 + s) + ";"), "keep 0;", 1, 0);
            refused("farther to the west", after(corner, blown + "run 0 " + (50 - s - 1) + ";"), "keep 0;");
            refused("farther to the east", after(corner, blown + "run 0 " + (50 + s + 1) + ";"), "keep 0;");
        }
        done("it came as near as S", after(corner, "blow 0 9;breath;east 9;"), "keep 0;", 1, 0);
        refused("it went farther than S", after(corner, "blow 0 9;breath;east 10;"), "keep 0;");
        done("who bought it, of age 1", after(corner, "blow 0 9;breath;sell 0 1 0;"), "keep 1;", 1, 0);
    }

    private static void breath400() {
        says(T, "breath (REFUSED from BREATH 400 on):");
        BubbleLeases x = after("tenant 99 10;", HUNDRED, HUNDRED, HUNDRED, "again 9[again 11[breath;];];");
        due("399", x.told(3), 399);
        Bench.work(x, "blow 0 1;");
        done("at 399 it is done, at 400 not", x, "breath;breath;", 1, 1);
        answers("400", new int[] {x.told(3), x.bubble(0, 2)}, 400, 1);
        refused("at 400 nothing ages", x, "breath;");
        done("all else is done still", x, "east 1;keep 0;", 2, 0);
        x.undo();
        x.undo();
        x.undo();
        done("399 again", x, "breath;", 1, 0);
    }

    private static void breathLife() {
        says(T, "AGE of all BUBBLES is 1 more; then all whose AGE is LIFE or more BURST");
        BubbleLeases x = at("tenant 99 10;tenant 99 60;");
        Bench.law(x, "3");
        Bench.work(x, "blow 0 1;breath;blow 1 1;breath;");
        answers("2 is below 3", new int[] {x.told(4), x.bubble(0, 2), x.bubble(1, 2)}, 3, 2, 1);
        Bench.work(x, "breath;");
        answers("3 is 3", new int[] {x.told(4), x.told(6), x.bubble(1, 2)}, 2, 1, 2);
        Bench.law(x, "60");
        Bench.work(x, "again 5[breath;];");
        Bench.law(x, "3");
        answers("beyond 3, till the next breath", new int[] {x.told(4), x.bubble(1, 2), x.bubble(1, 3)}, 2, 7, 3);
        Bench.work(x, "breath;");
        answers("beyond 3", new int[] {x.told(4), x.told(6)}, 0, 2);
        BubbleLeases y = at("tenant 99 10;");
        Bench.law(y, "0");
        Bench.work(y, "blow 0 1;");
        due("age 0 is below LIFE 1", y.told(4), 1);
        Bench.work(y, "breath;");
        due("age 1 is LIFE 1", y.told(4), 0);
    }

    private static void breathAtOnce() {
        says(T, "(all LIVES as all is behind that, ahead of any that BURST);");
        BubbleLeases x = at("tenant 99 10;tenant 99 20;");
        // Were the first gone ahead of the second one's LIFE, that had no wall and lived on.
        Bench.law(x, "3 - walls");
        Bench.work(x, "blow 0 5;blow 1 5;breath;");
        due("both live", x.told(4), 3);
        Bench.work(x, "breath;");
        due("both burst", x.told(4), 0);
        // Were the first gone ahead of the second one's LIFE, that had the VIEW and burst.
        BubbleLeases y = at("view 10 9;tenant 99 10;tenant 99 12;");
        Bench.law(y, "3 - least[2, worth]");
        Bench.work(y, "blow 0 5;blow 1 5;breath;");
        answers("who has the view bursts alone", new int[] {y.told(4), y.bubble(1, 2), y.bubble(1, 3)}, 2, 1, 1);
    }

    private static void breathOneMore() {
        says(T, "the BREATH is one more.");
        BubbleLeases x = after("tenant 99 10;", "breath;breath;");
        due("two more", x.told(3), 2);
        BubbleLeases y = at("tenant 99 10;");
        Bench.law(y, "breath + 1");
        Bench.work(y, "blow 0 1;breath;");
        answers("it is one more behind that", new int[] {y.told(4), y.told(3)}, 0, 1);
        due("without bubbles, tenants, views", after("", "breath;").told(3), 1);
    }

    private static void burst() {
        says(T, "A BUBBLE that BURST (by whatever) is gone; it is counted.");
        BubbleLeases x = after("view 10 5;tenant 99 10;tenant 99 10;tenant 99 95;", "blow 0 5;blow 1 5;blow 2 5;east 5;");
        answers("by east", new int[] {x.told(6), x.told(4), x.bubble(2, 0), x.tenant(2, 2)}, 1, 3, NONE, 0);
        Bench.work(x, "west 16;");
        answers("by west", new int[] {x.told(6), x.told(4), x.bubble(0, 0), x.bubble(1, 0)}, 3, 0, NONE, NONE);
        Bench.law(x, "1");
        Bench.work(x, "blow 0 5;breath;");
        answers("by breath", new int[] {x.told(6), x.told(4), x.view(0, 2), x.view(0, 3), x.told(11)}, 4, 0, NONE, 0, 0);
        due("none is left to burst", x.ahead(99, 2), 4);
        Bench.work(x, "blow 1 1;");
        answers("he may blow anew; that one is no other", new int[] {x.bubble(1, 0), x.bubble(1, 2), x.told(6)}, 1, 0, 4);
    }
}
