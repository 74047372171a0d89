/** Promises 19 to 25, 39 and 40: who blew, chances, games, sunlight, afternoons. */
public final class GuessesTest {
    public static void main(String[] args) {
        promise19();
        promise20();
        promise21();
        promise22();
        promise23();
        promise24();
        promise25();
        promise39();
        promise40();
        Bench.end();
    }

    private static void promise19() {
        BubbleLeases x = Bench.at(Bench.CORNER);
        Bench.due("all pairs", x.fits(0), 60);
        Bench.due("the first", x.fits(1), 1);
        Bench.book(x, "1 1;");
        // View 1 is 4 from tenant 1.
        Bench.due("from 4 on", x.fits(0), 17);
        Bench.due("the first", x.fits(1), 104);
        Bench.book(x, "1 4;");
        Bench.due("one who is not told never has it", x.fits(0), 0);
        Bench.due("no first", x.fits(1), -1);
        Bench.book(x, "0 5;1 5;2 5;3 5;");
        // 1 of tenant 0, 1 to 3 of tenant 1, 1 to 4 of tenant 2 see none.
        Bench.due("none had", x.fits(0), 8);
        Bench.due("the first", x.fits(1), 1);
        Bench.book(x, "0 0;");
        Bench.due("by the nearest", x.fits(0), 19);
        Bench.work(x, "blow 0 2;");
        // Who can't blow changes nothing, so all his pairs fit; tenant 1 is farther off than tenant 0.
        Bench.due("all pairs again", x.fits(0), 60);
        Bench.book(x, "0 2;");
        Bench.due("nobody", x.fits(0), 0);
        BubbleLeases poor = Bench.at("view 9 1;tenant 1 9;tenant 0 9;");
        Bench.book(poor, "0 0;");
        Bench.due("what he can pay for", poor.fits(0), 4);
        Bench.book(poor, "0 5;");
        Bench.due("what they can't pay for", poor.fits(0), 36);
        Bench.due("the first", poor.fits(1), 5);
        Bench.due("nothing stays changed", poor.told(4), 0);
        Bench.wrongArgument(x, "fits(2)", () -> x.fits(2));
        Bench.wrongArgument(x, "fits(-1)", () -> x.fits(-1));
    }

    private static void promise20() {
        BubbleLeases x = Bench.at(Bench.CORNER);
        // View 1 (at 20): 13 pairs of tenant 0, 17 of tenant 1, 30 without.
        Bench.due("look(0)", x.look(0), 1);
        Bench.due("look(1)", x.look(1), 30);
        Bench.book(x, "1 1;");
        Bench.due("of alike ones", x.look(0), 0);
        // View 0 is 14 from tenant 1: 7 sizes of 17 see it.
        Bench.due("at the worst", x.look(1), 10);
        Bench.book(x, "1 4;");
        Bench.due("none is left", x.look(0), 0);
        Bench.due("none is left", x.look(1), 0);
        Bench.book(x, "0 5;1 5;2 5;3 5;");
        Bench.due("all in lines", x.look(0), -1);
        Bench.due("all in lines", x.look(1), -1);
        Bench.due("no views", new BubbleLeases().look(1), -1);
        Bench.due("no tenants", Bench.at("view 1 1;").look(1), 0);
        Bench.wrongArgument(x, "look(2)", () -> x.look(2));
        Bench.wrongArgument(x, "look(-1)", () -> x.look(-1));
    }

    private static void fraction(String what, long above, long below, long dueAbove, long dueBelow) {
        Bench.due(what + " above", above, dueAbove);
        Bench.due(what + " below", below, dueBelow);
    }

    private static void promise21() {
        BubbleLeases x = new BubbleLeases();
        fraction("stands(0, 16)", x.stands(0, 16, 0), x.stands(0, 16, 1), 1, 1);
        fraction("stands(1, 16)", x.stands(1, 16, 0), x.stands(1, 16, 1), 0, 1);
        fraction("stands(12, 0)", x.stands(12, 0, 0), x.stands(12, 0, 1), 1, 1);
        fraction("stands(3, 4)", x.stands(3, 4, 0), x.stands(3, 4, 1), 27, 64);
        fraction("stands(12, 1)", x.stands(12, 1, 0), x.stands(12, 1, 1), 129746337890625L, 281474976710656L);
        Bench.wrongArgument(x, "stands(13, 0, 0)", () -> x.stands(13, 0, 0));
        Bench.wrongArgument(x, "stands(-1, 0, 0)", () -> x.stands(-1, 0, 0));
        Bench.wrongArgument(x, "stands(0, 17, 0)", () -> x.stands(0, 17, 0));
        Bench.wrongArgument(x, "stands(0, -1, 0)", () -> x.stands(0, -1, 0));
        Bench.wrongArgument(x, "stands(0, 0, 2)", () -> x.stands(0, 0, 2));
        Bench.wrongArgument(x, "stands(0, 0, -1)", () -> x.stands(0, 0, -1));
    }

    private static void promise22() {
        BubbleLeases x = new BubbleLeases();
        fraction("mean(0, 5)", x.mean(0, 5, 0), x.mean(0, 5, 1), 0, 1);
        fraction("mean(12, 0)", x.mean(12, 0, 0), x.mean(12, 0, 1), 12, 1);
        fraction("mean(12, 16)", x.mean(12, 16, 0), x.mean(12, 16, 1), 0, 1);
        fraction("mean(3, 8)", x.mean(3, 8, 0), x.mean(3, 8, 1), 7, 8);
        fraction("mean(2, 4)", x.mean(2, 4, 0), x.mean(2, 4, 1), 21, 16);
        // 15 less 15 times 15 by 16, twelve times over.
        fraction("mean(12, 1)", x.mean(12, 1, 0), x.mean(12, 1, 1), 15 * (281474976710656L - 129746337890625L), 281474976710656L);
        Bench.wrongArgument(x, "mean(13, 0, 0)", () -> x.mean(13, 0, 0));
        Bench.wrongArgument(x, "mean(-1, 0, 0)", () -> x.mean(-1, 0, 0));
        Bench.wrongArgument(x, "mean(0, 17, 0)", () -> x.mean(0, 17, 0));
        Bench.wrongArgument(x, "mean(0, -1, 0)", () -> x.mean(0, -1, 0));
        Bench.wrongArgument(x, "mean(0, 0, 2)", () -> x.mean(0, 0, 2));
        Bench.wrongArgument(x, "mean(0, 0, -1)", () -> x.mean(0, 0, -1));
    }

    private static void promise23() {
        Model model = new Model();
        for (int n = 0; n < 1000; n++) {
            Bench.due("sure(" + n + ")", new BubbleLeases().sure(n), model.sure(n));
        }
        BubbleLeases x = new BubbleLeases();
        Bench.wrongArgument(x, "sure(1000)", () -> x.sure(1000));
        Bench.wrongArgument(x, "sure(-1)", () -> x.sure(-1));
    }

    private static void promise24() {
        BubbleLeases x = new BubbleLeases();
        int[][] due = {{5, 3, 1, 11, 0}, {5, 2, 2, 1, 6}, {4, 2, 3, 1, 4}, {5, 0, 3, 0, 10}, {0, 0, 4, 0, 0}, {0, 1, 1, 11, 0}, {99, 99, 1, 11, 0}};
        for (int[] d : due) {
            for (int what = 0; what < 3; what++) {
                Bench.due("pay(" + d[0] + ", " + d[1] + ", " + what + ")", x.pay(d[0], d[1], what), d[2 + what]);
            }
        }
        Bench.wrongArgument(x, "pay(100, 0, 0)", () -> x.pay(100, 0, 0));
        Bench.wrongArgument(x, "pay(-1, 0, 0)", () -> x.pay(-1, 0, 0));
        Bench.wrongArgument(x, "pay(0, 100, 0)", () -> x.pay(0, 100, 0));
        Bench.wrongArgument(x, "pay(0, -1, 0)", () -> x.pay(0, -1, 0));
        Bench.wrongArgument(x, "pay(0, 0, 3)", () -> x.pay(0, 0, 3));
        Bench.wrongArgument(x, "pay(0, 0, -1)", () -> x.pay(0, 0, -1));
    }

    private static void promise25() {
        BubbleLeases x = Bench.at("view 10 3;view 30 10;view 50 20;tenant 9 10;tenant 9 30;tenant 9 50;tenant 9 70;");
        Bench.work(x, "blow 0 1;blow 1 1;blow 2 1;");
        int[] ns = {0, 8, 9, 10, 22, 23, 32, 33, 999};
        int[][] due = {{0, 0, 0}, {2, 2, 2}, {3, 3, 3}, {3, 3, 3}, {3, 9, 9}, {3, 10, 10}, {3, 10, 19}, {3, 10, 20}, {3, 10, 20}};
        for (int i = 0; i < ns.length; i++) {
            for (int t = 0; t < 3; t++) {
                Bench.due("sun(" + t + ", 15, " + ns[i] + ")", x.sun(t, 15, ns[i]), due[i][t]);
            }
        }
        Bench.due("among two", x.sun(2, 5, 20), 17);
        Bench.due("none of them", x.sun(1, 5, 20), 0);
        Bench.due("among none", x.sun(1, 0, 20), 0);
        Bench.due("who has none", x.sun(3, 8, 20), 0);
        Bench.noSuch(x, "sun(4, 99, -1)", () -> x.sun(4, 99, -1));
        Bench.noSuch(x, "sun(-1, 0, 0)", () -> x.sun(-1, 0, 0));
        Bench.wrongArgument(x, "sun(0, 16, 0)", () -> x.sun(0, 16, 0));
        Bench.wrongArgument(x, "sun(0, -1, 0)", () -> x.sun(0, -1, 0));
        Bench.wrongArgument(x, "sun(0, MIN, 0)", () -> x.sun(0, Integer.MIN_VALUE, 0));
        Bench.wrongArgument(x, "sun(0, 1, 1000)", () -> x.sun(0, 1, 1000));
        Bench.wrongArgument(x, "sun(0, 1, -1)", () -> x.sun(0, 1, -1));
        Bench.due("the most there can be", mostSun(), 480);
    }

    private static int mostSun() {
        BubbleLeases x = Bench.at("view 10 60;".repeat(8) + "tenant 9 10;");
        Bench.work(x, "blow 0 1;");
        return x.sun(0, 1, 999);
    }

    /** One draw of the document. */
    private static int draw(int[] seed, int by) {
        seed[0] = seed[0] * 1103515245 + 12345;
        return (seed[0] >>> 16) % 32768 % by;
    }

    private static void promise39() {
        for (int start = -3; start < 40; start++) {
            BubbleLeases x = Bench.at("view 10 5;view 50 9;view 80 7;tenant 9 10;tenant 2 50;tenant 50 85;soap 2;");
            BubbleLeases y = Bench.at("view 10 5;view 50 9;view 80 7;tenant 9 10;tenant 2 50;tenant 50 85;soap 2;");
            Bench.work(x, "blow 0 3;breath;");
            Bench.work(y, "blow 0 3;breath;");
            int[] seed = {start};
            int blown = y.told(5);
            int burst = y.told(6);
            int q = Math.floorMod(start, 17);
            for (int breath = 1; breath <= 12; breath++) {
                String blow = "blow " + draw(seed, 3) + " " + (1 + draw(seed, 20)) + ";";
                String wind = (draw(seed, 16) < q ? "east " : "west ") + (1 + draw(seed, 20)) + ";";
                Bench.work(y, blow + wind + "breath;");
                int[] due = {y.told(4), y.told(5) - blown, y.told(6) - burst, y.told(8)};
                for (int what = 0; what < 4; what++) {
                    Bench.due("afternoon(" + start + ", " + q + ", " + breath + ", " + what + ")", x.afternoon(start, q, breath, what), due[what]);
                }
            }
            Bench.due("nothing stays changed", x.told(3) * 100 + x.told(5), 101);
        }
        BubbleLeases x = Bench.at("tenant 9 10;");
        Bench.due("without tenants", new BubbleLeases().afternoon(1, 16, 48, 1), 0);
        Bench.wrongArgument(x, "afternoon(1, 17, 1, 0)", () -> x.afternoon(1, 17, 1, 0));
        Bench.wrongArgument(x, "afternoon(1, -1, 1, 0)", () -> x.afternoon(1, -1, 1, 0));
        Bench.wrongArgument(x, "afternoon(1, 0, 0, 0)", () -> x.afternoon(1, 0, 0, 0));
        Bench.wrongArgument(x, "afternoon(1, 0, 49, 0)", () -> x.afternoon(1, 0, 49, 0));
        Bench.wrongArgument(x, "afternoon(1, 0, 1, 4)", () -> x.afternoon(1, 0, 1, 4));
        Bench.wrongArgument(x, "afternoon(1, 0, 1, -1)", () -> x.afternoon(1, 0, 1, -1));
    }

    private static BubbleLeases busy() {
        BubbleLeases x = Bench.at("view 10 5;view 50 9;tenant 30 10;tenant 9 50;tenant 50 85;soap 2;");
        Bench.work(x, "blow 0 3;west 20;");
        return x;
    }

    private static void promise40() {
        int[] starts = {7, -4, Integer.MAX_VALUE - 2};
        for (int start : starts) {
            for (int many = 1; many <= 10; many++) {
                BubbleLeases x = busy();
                int fewest = 1000;
                int most = 0;
                int[] having = new int[3];
                for (int i = 0; i < many; i++) {
                    int burst = x.afternoon(start + i, 8, 20, 2);
                    fewest = Math.min(fewest, burst);
                    most = Math.max(most, burst);
                    for (int t = 0; t < 3; t++) {
                        having[t] += x.afternoon(start + i, 8, 20, 0) >> t & 1;
                    }
                }
                Bench.due("fewest", x.span(start, many, 8, 20, 0, 0), fewest);
                Bench.due("most", x.span(start, many, 8, 20, 1, 2), most);
                for (int t = 0; t < 3; t++) {
                    Bench.due("having", x.span(start, many, 8, 20, 2, t), having[t]);
                }
            }
        }
        BubbleLeases x = busy();
        Bench.wrongArgument(x, "span(1, 0, 0, 1, 0, 0)", () -> x.span(1, 0, 0, 1, 0, 0));
        Bench.wrongArgument(x, "span(1, 11, 0, 1, 0, 0)", () -> x.span(1, 11, 0, 1, 0, 0));
        Bench.wrongArgument(x, "span(1, 1, 17, 1, 0, 0)", () -> x.span(1, 1, 17, 1, 0, 0));
        Bench.wrongArgument(x, "span(1, 1, -1, 1, 0, 0)", () -> x.span(1, 1, -1, 1, 0, 0));
        Bench.wrongArgument(x, "span(1, 1, 0, 0, 0, 0)", () -> x.span(1, 1, 0, 0, 0, 0));
        Bench.wrongArgument(x, "span(1, 1, 0, 49, 0, 0)", () -> x.span(1, 1, 0, 49, 0, 0));
        Bench.wrongArgument(x, "span(1, 1, 0, 1, 3, 0)", () -> x.span(1, 1, 0, 1, 3, 0));
        Bench.wrongArgument(x, "span(1, 1, 0, 1, -1, 0)", () -> x.span(1, 1, 0, 1, -1, 0));
        Bench.wrongArgument(x, "span(1, 1, 0, 1, 0, 3)", () -> x.span(1, 1, 0, 1, 0, 3));
        Bench.wrongArgument(x, "span(1, 1, 0, 1, 1, -1)", () -> x.span(1, 1, 0, 1, 1, -1));
        BubbleLeases nobody = new BubbleLeases();
        Bench.wrongArgument(nobody, "span without tenants", () -> nobody.span(1, 1, 0, 1, 0, 0));
    }
}
