import java.util.List;

/** The Terms from ==== 3 on: what is asked, and what comes out of it. */
final class QuestionEdges extends Edge {
    private static final int T = Doc.TERMS;

    static void run() {
        nothingStays();
        breathsGoBy();
        wall();
        lasts();
        pitch();
        street();
        fits();
        look();
        stands();
        mean();
        sure();
        pay();
        sun();
        afternoon();
        afternoonBreath();
        draw();
    }

    private static void nothingStays() {
        says(T, "Asked, nothing stays changed;");
        for (Make make : List.<Make>of(Edge::rich, Edge::full, Edge::fresh)) {
            BubbleLeases x = make.make();
            askAll(x);
            same("asking all", x, make.make());
        }
        BubbleLeases x = rich();
        long first = askAll(x);
        due("asked again, all is answered likewise", askAll(x), first);
    }

    /** Every question, with what refuses some of them, in one number. */
    private static long askAll(BubbleLeases x) {
        long sum = 0;
        Ask[] asks = {y -> y.fault(), y -> y.would(20, 1, 4, 99, 480, 400, 999, 4), y -> y.ahead(99, 0), y -> y.ahead(3, 1), y -> y.ahead(99, 2),
            y -> y.wall(0, 1, 0), y -> y.wall(1, 0, 1), y -> y.lasts(0), y -> y.lasts(2), y -> y.pitch(7, 0), y -> y.pitch(7, 1),
            y -> y.street(3, 2), y -> y.street(20, 8), y -> y.fits(0), y -> y.fits(1), y -> y.look(0), y -> y.look(1),
            y -> y.stands(12, 3, 0), y -> y.mean(12, 3, 1), y -> y.sure(999), y -> y.pay(5, 2, 2), y -> y.sun(1, 3, 9), y -> y.richest(0),
            y -> y.idle(), y -> y.under(), y -> y.offer(0, 5), y -> y.offer(2, 20), y -> y.lost(20, 0), y -> y.lost(20, 1), y -> y.terrace(0),
            y -> y.overlap(0, 1), y -> y.vacant(0), y -> y.needs(0, 1), y -> y.buyers(0, 3), y -> y.affords(1), y -> y.front(0, 99, 0),
            y -> y.closest(0, 1), y -> y.afternoon(7, 8, 48, 0), y -> y.afternoon(MIN, 16, 20, 3), y -> y.span(5, 10, 3, 48, 2, 0),
            y -> y.status(2), y -> y.count(0)};
        for (Ask ask : asks) {
            long[] answer = {0};
            String refusal = thrown(x, y -> answer[0] = ask.ask(y));
            sum = sum * 31 + answer[0] + refusal.length();
        }
        return sum;
    }

    private static void breathsGoBy() {
        says(T, "BREATHS go by as by breath (beyond 400, too).");
        BubbleLeases x = rich();
        BubbleLeases y = rich();
        y.law(0);
        for (int n = 0; n <= 12; n++) {
            answers("ahead by " + n, new int[] {x.ahead(n, 0), x.ahead(n, 1), x.ahead(n, 2)}, y.told(4), y.told(8), y.told(6));
            Bench.work(y, "breath;");
        }
        BubbleLeases z = after("view 50 9;tenant 1 50;", HUNDRED, HUNDRED, HUNDRED, HUNDRED, "blow 0 1;");
        Bench.law(z, "404 - breath");
        due("BREATH 400", z.told(3), 400);
        // AGE 1, 2, 3 against LIFE 4, 3, 2.
        answers("they go by, and are counted", new int[] {z.ahead(0, 0), z.ahead(2, 0), z.ahead(3, 0), z.ahead(2, 2), z.ahead(3, 2), z.lasts(0)},
                1, 1, 0, 0, 1, 3);
        Bench.law(z, "1");
        answers("in afternoons, too", new int[] {z.afternoon(1, 8, 1, 2), z.span(1, 10, 8, 1, 0, 0)}, 1, 1);
        due("it is 400 still", z.told(3), 400);
    }

    private static int common(int a, int b) {
        return b == 0 ? a : common(b, a % b);
    }

    private static void wall() {
        says(T, "WALL of two TENANTS: where their BUBBLES TOUCH, the wall between is bent by a radius of both S one times the other one,"
                + " by how much more the one is than the other one: a fraction in least terms, above 0; alike ones: 0 by 1 (it is flat).");
        for (int a = 1; a <= 20; a++) {
            for (int b = 1; b <= 20; b++) {
                BubbleLeases x = after("tenant 99 50;tenant 99 50;", "blow 0 " + a + ";blow 1 " + b + ";");
                int c = common(a * b, Math.abs(a - b));
                answers("S " + a + " and " + b, new int[] {x.wall(0, 1, 0), x.wall(0, 1, 1), x.wall(1, 0, 0), x.wall(1, 0, 1)},
                        a == b ? new int[] {0, 1, 0, 1}
                                : new int[] {a * b / c, Math.abs(a - b) / c, a * b / c, Math.abs(a - b) / c});
            }
        }
        BubbleLeases x = after("tenant 99 10;tenant 99 40;tenant 99 29;", "blow 0 20;blow 1 10;blow 2 1;");
        answers("20 and 10, just touching", new int[] {x.wall(0, 1, 0), x.wall(0, 1, 1)}, 20, 1);
        BubbleLeases y = after("tenant 99 10;tenant 99 41;", "blow 0 20;blow 1 10;");
        answers("one farther", new int[] {y.wall(0, 1, 0), y.wall(0, 1, 1)}, NONE, NONE);
    }

    private static void lasts() {
        says(T, "LASTS of a TENANT: behind how many BREATHS (1 to 99), nothing else being done, his BUBBLE BURST;");
        BubbleLeases x = after("tenant 99 10;tenant 99 80;", "blow 0 1;");
        for (int life = 1; life <= 60; life += 59) {
            Bench.law(x, String.valueOf(life));
            due("LIFE " + life, x.lasts(0), life);
        }
        Bench.work(x, "again 29[breath;];");
        due("of AGE 29", x.lasts(0), 31);
        Bench.work(x, "again 30[breath;];");
        due("of AGE 59", x.lasts(0), 1);
        Bench.law(x, "1");
        due("of AGE 59, LIFE 1", x.lasts(0), 1);
        // LIFE of both is 7 while they touch, 8 alone.
        BubbleLeases y = after("tenant 99 10;tenant 99 20;", "blow 0 5;breath;blow 1 5;");
        Bench.law(y, "8 - walls");
        answers("the one bursts, the other one lives on alone", new int[] {y.lasts(0), y.lasts(1)}, 6, 8);
        BubbleLeases z = after("tenant 99 10;", "blow 0 5;");
        Bench.law(z, "breath * 2 + 3");
        due("LIFE grows by 2 a breath, till it is 60", z.lasts(0), 60);

        says(T, "NONE: more, or he has none.");
        due("he has none", x.lasts(1), NONE);
        due("it burst", after("tenant 99 1;", "blow 0 1;west 2;").lasts(0), NONE);
        due("it is sold", after("tenant 99 1;tenant 99 50;", "blow 0 1;sell 0 1 0;").lasts(0), NONE);
        // More can't come: LIFE is 60 at most, whatever the LAW.
        Bench.law(z, "999");
        due("60 at most", z.lasts(0), 60);
    }

    private static void pitch() {
        says(T, "PITCH of S: the X (0 to 99) at which a BUBBLE of SIZE S would SEE VIEWS of most WORTH together, of alike ones the least.");
        answers("no views", new int[] {fresh().pitch(1, 0), fresh().pitch(20, 1)}, 0, 0);
        answers("no worth", new int[] {at("view 50 0;").pitch(1, 0), at("view 50 0;").pitch(1, 1)}, 0, 0);
        answers("a view at 0", new int[] {at("view 0 1;").pitch(1, 0), at("view 0 1;").pitch(1, 1)}, 0, 1);
        answers("a view at 99", new int[] {at("view 99 1;").pitch(1, 0), at("view 99 1;").pitch(20, 0)}, 98, 79);
        answers("as far as S", new int[] {at("view 20 1;").pitch(20, 0), at("view 21 1;").pitch(20, 0), at("view 20 1;").pitch(19, 0)}, 0, 1, 1);
        String two = "view 30 5;view 34 6;view 80 10;";
        answers("both in one", new int[] {at(two).pitch(2, 0), at(two).pitch(2, 1)}, 32, 11);
        answers("not both in one", new int[] {at(two).pitch(1, 0), at(two).pitch(1, 1)}, 79, 10);
        answers("alike ones", new int[] {at("view 70 5;view 30 5;").pitch(3, 0), at("view 70 5;view 30 5;").pitch(3, 1)}, 27, 5);
        BubbleLeases x = full();
        answers("others do not matter", new int[] {x.pitch(20, 0), x.pitch(20, 1), x.pitch(1, 0)}, 30, 480, 49);
    }

    private static void street() {
        says(T, "STREET of S and n: n BUBBLES of SIZE S at X's of 0 to 99 (whatever others there are; no money is paid; they may TOUCH):"
                + " the most WORTH of all VIEWS together that one or more of them SEE.");
        String eight = "view 0 1;view 14 2;view 28 4;view 42 8;view 56 16;view 70 32;view 84 60;view 99 59;";
        int[] due = {0, 60, 119, 151, 167, 175, 179, 181, 182};
        for (int n = 0; n <= 8; n++) {
            due("n " + n + " of eight that are apart", at(eight).street(1, n), due[n]);
        }
        answers("at both ends", new int[] {at("view 0 5;view 99 6;").street(1, 1), at("view 0 5;view 99 6;").street(20, 2)}, 6, 11);
        answers("twice S apart, and one more", new int[] {at("view 0 5;view 40 6;").street(20, 1), at("view 0 5;view 41 6;").street(20, 1),
            at("view 59 5;view 99 6;").street(20, 1), at("view 58 5;view 99 6;").street(20, 1)}, 11, 6, 11, 6);
        answers("a second one just behind the first", new int[] {at("view 0 5;view 41 6;").street(20, 2), at("view 30 5;view 33 6;").street(1, 2)}, 11, 11);
        // One from the second VIEW on sees more than one from the first on, which is just ahead.
        answers("the first is left out", new int[] {at("view 30 1;view 31 5;view 35 9;").street(2, 1), at("view 0 1;view 1 5;view 41 9;").street(20, 1)}, 14, 14);
        answers("a view that two see counts once", new int[] {at("view 50 5;").street(3, 2), at("view 50 5;view 51 6;").street(3, 8)}, 5, 11);
        answers("they may touch", new int[] {at("view 50 5;view 53 6;view 56 7;view 59 8;").street(2, 2)}, 26);
        // The best one would take the middle, and leave one of the outer ones.
        answers("the best two without the best one", new int[] {at("view 50 5;view 52 9;view 54 9;view 56 5;").street(1, 1),
            at("view 50 5;view 52 9;view 54 9;view 56 5;").street(1, 2)}, 18, 28);
        BubbleLeases x = full();
        answers("whatever others there are", new int[] {x.street(1, 1), x.street(1, 0)}, 480, 0);
        answers("no money is paid, none is there", new int[] {at("view 5 5;tenant 0 5;").street(20, 1), at("view 5 5;").street(20, 1)}, 5, 5);
        due("of no worth", at("view 5 0;").street(20, 8), 0);
        due("of no views", fresh().street(20, 8), 0);
    }

    /** 0 stands at the first VIEW; 1, at the second, can pay for 4 at most; 2 can pay for nothing. */
    private static final String THREE = "view 10 5;view 30 5;tenant 99 10;tenant 1 30;tenant 0 50;";

    private static void fitting(String book, BubbleLeases x, int many, int first) {
        Bench.book(x, book);
        answers("fits by '" + book + "'", new int[] {x.fits(0), x.fits(1)}, many, first);
    }

    private static void fits() {
        says(T, "FITS by BOOK: pairs of a TENANT and a SIZE (1 to 20) by which, had he blown a BUBBLE of it now (if he can't, all stays),"
                + " all lines are right:");
        BubbleLeases x = at(THREE);
        fitting("", x, 60, 1);
        fitting("0 0;", x, 20, 1);
        fitting("0 5;1 5;", x, 36, 105);
        fitting("1 1;", x, 4, 101);
        fitting("1 0;", x, 1, 20);
        fitting("0 0;1 0;", x, 1, 20);
        fitting("0 0;1 5;", x, 19, 1);
        fitting("1 2;", x, 0, NONE);
        fitting("1 4;", x, 0, NONE);
        Bench.work(x, "blow 1 4;");
        // 1 has one and can't; 0 never has the second VIEW, since 1 is nearer.
        fitting("1 1;", x, 60, 1);
        fitting("0 5;", x, 40, 101);
        fitting("1 5;", x, 0, NONE);
        fitting("", fresh(), 0, NONE);
        fitting("", at("view 5 5;"), 0, NONE);

        says(T, "how many, the first (100 times the TENANT, and the SIZE).");
        BubbleLeases y = at("view 99 5;tenant 0 0;tenant 0 0;tenant 0 0;tenant 0 0;tenant 99 79;");
        fitting("0 4;", y, 1, 420);
        fitting("0 5;", y, 99, 1);
        fitting("", y, 100, 1);
    }

    private static void looking(String book, BubbleLeases x, int view, int left) {
        Bench.book(x, book);
        answers("look by '" + book + "'", new int[] {x.look(0), x.look(1)}, view, left);
    }

    private static void look() {
        says(T, "LOOK: the VIEW in no line by which, whoever has it then, or none, fewest such pairs are left at the worst, of these the first.");
        BubbleLeases x = at(THREE);
        // The first: 20 by 0, 40 by none. The second: 1 by 0, 4 by 1, 55 by none.
        looking("", x, 0, 40);
        looking("0 5;", x, 1, 36);
        looking("0 0;", x, 1, 19);
        looking("1 5;", x, 0, 36);
        looking("1 0;", x, 0, 1);
        looking("1 2;", x, 0, 0);
        looking("0 5;1 5;", x, NONE, NONE);
        looking("", at("view 30 1;view 10 5;view 10 6;tenant 99 10;tenant 0 1;"), 1, 20);
        looking("", at("view 90 1;view 90 5;tenant 99 10;"), 0, 20);
        looking("0 5;", at("view 90 1;view 90 5;tenant 99 10;"), 1, 20);
        looking("", at("view 10 1;"), 0, 0);
        looking("", at("tenant 99 10;"), NONE, NONE);
        looking("", fresh(), NONE, NONE);
        BubbleLeases y = at("view 10 5;".repeat(8) + "tenant 99 10;");
        looking("0 0;1 0;2 0;3 0;4 0;5 0;6 0;", y, 7, 20);
        looking("0 0;1 0;2 0;3 0;4 0;5 0;6 0;7 0;", y, NONE, NONE);
    }

    private static void fraction(String what, long above, long below, long wantAbove, long wantBelow) {
        due(what + ", above", above, wantAbove);
        due(what + ", below", below, wantBelow);
    }

    private static void stands() {
        says(T, "STANDS of n, q: in each BREATH a bubble bursts by q of 16, each by itself: how likely it is there behind n of them.");
        BubbleLeases x = fresh();
        for (int q = 0; q <= 16; q++) {
            fraction("0, " + q, x.stands(0, q, 0), x.stands(0, q, 1), 1, 1);
            int c = common(16, 16 - q);
            fraction("1, " + q, x.stands(1, q, 0), x.stands(1, q, 1), (16 - q) / c, 16 / c);
        }
        for (int n = 1; n <= 12; n++) {
            fraction(n + ", 0", x.stands(n, 0, 0), x.stands(n, 0, 1), 1, 1);
            fraction(n + ", 16", x.stands(n, 16, 0), x.stands(n, 16, 1), 0, 1);
            fraction(n + ", 8", x.stands(n, 8, 0), x.stands(n, 8, 1), 1, 1L << n);
            fraction(n + ", 15", x.stands(n, 15, 0), x.stands(n, 15, 1), 1, 1L << 4 * n);
        }
        fraction("12, 1", x.stands(12, 1, 0), x.stands(12, 1, 1), 129746337890625L, 281474976710656L);
        fraction("12, 4", x.stands(12, 4, 0), x.stands(12, 4, 1), 531441, 16777216);
    }

    private static void mean() {
        says(T, "MEAN of n, q: of how many of n BREATHS it is there at the end, as it is to be expected: the sum of STANDS of 1, 2, to n.");
        BubbleLeases x = fresh();
        for (int q = 0; q <= 16; q++) {
            fraction("1, " + q, x.mean(1, q, 0), x.mean(1, q, 1), x.stands(1, q, 0), x.stands(1, q, 1));
        }
        for (int n = 1; n <= 12; n++) {
            fraction(n + ", 0", x.mean(n, 0, 0), x.mean(n, 0, 1), n, 1);
            fraction(n + ", 16", x.mean(n, 16, 0), x.mean(n, 16, 1), 0, 1);
            fraction(n + ", 8", x.mean(n, 8, 0), x.mean(n, 8, 1), (1L << n) - 1, 1L << n);
        }
        fraction("12, 15", x.mean(12, 15, 0), x.mean(12, 15, 1), 18764998447377L, 281474976710656L);
        fraction("2, 4", x.mean(2, 4, 0), x.mean(2, 4, 1), 21, 16);
        fraction("12, 1", x.mean(12, 1, 0), x.mean(12, 1, 1), 15 * (281474976710656L - 129746337890625L), 281474976710656L);
    }

    private static void sure() {
        says(T, "SURE of n: two take 1, 3 or 4 halfpennies of n by turns, who takes the last one wins:"
                + " the least number to take first to win, whatever the other one does; NONE.");
        int[] take = new int[1000];
        for (int n = 0; n < 1000; n++) {
            take[n] = NONE;
            for (int k : new int[] {4, 3, 1}) {
                take[n] = k <= n && take[n - k] == NONE ? k : take[n];
            }
        }
        answers("by hand", new int[] {take[0], take[1], take[2], take[3], take[4], take[5], take[6], take[7], take[8]},
                NONE, 1, NONE, 1, 4, 3, 4, NONE, 1);
        BubbleLeases x = fresh();
        for (int n = 0; n < 1000; n++) {
            due("n " + n, (n % 400 == 0 ? x = fresh() : x).sure(n), take[n]);
        }
    }

    private static void pay() {
        says(T, "PAY by v, w: each of two pays, or not: both pay: each has v less w; one pays: he has v less 2 w, the other one v;"
                + " none: each has 0; RESTS: neither would have more by the other thing.");
        int[][] due = {{0, 0, 4, 0, 0}, {0, 1, 1, 11, 0}, {1, 0, 3, 0, 2}, {1, 1, 1, 11, 0}, {2, 1, 3, 1, 2}, {3, 1, 2, 1, 4},
            {99, 0, 3, 0, 198}, {0, 99, 1, 11, 0}, {99, 99, 1, 11, 0}, {99, 50, 1, 11, 0}, {98, 49, 3, 1, 98}, {99, 49, 2, 1, 100}, {97, 49, 1, 11, 0}};
        BubbleLeases x = fresh();
        for (int[] d : due) {
            answers("v " + d[0] + ", w " + d[1], new int[] {x.pay(d[0], d[1], 0), x.pay(d[0], d[1], 1), x.pay(d[0], d[1], 2)}, d[2], d[3], d[4]);
        }
    }

    private static void sun() {
        says(T, "SUN of n among told TENANTS (bits) by WORTH of what each has: levelled: no more than that each, no more than a bound,"
                + " the greatest by which no more than n are given (all, if they are no more).");
        BubbleLeases x = after("view 10 3;view 30 10;view 50 20;tenant 9 10;tenant 9 30;tenant 9 50;tenant 9 70;tenant 9 90;",
                "blow 0 1;blow 1 1;blow 2 1;blow 3 1;");
        // WORTH is 3, 10, 20, 0, and 0 of one who has no BUBBLE.
        int[] ns = {0, 2, 3, 8, 9, 10, 11, 22, 23, 24, 32, 33, 34, 999};
        int[][] due = {{0, 0, 0}, {0, 0, 0}, {1, 1, 1}, {2, 2, 2}, {3, 3, 3}, {3, 3, 3}, {3, 4, 4}, {3, 9, 9}, {3, 10, 10}, {3, 10, 11},
            {3, 10, 19}, {3, 10, 20}, {3, 10, 20}, {3, 10, 20}};
        for (int i = 0; i < ns.length; i++) {
            answers("of " + ns[i], new int[] {x.sun(0, 31, ns[i]), x.sun(1, 31, ns[i]), x.sun(2, 31, ns[i]), x.sun(3, 31, ns[i]), x.sun(4, 31, ns[i])},
                    due[i][0], due[i][1], due[i][2], 0, 0);
        }
        answers("alone", new int[] {x.sun(2, 4, 0), x.sun(2, 4, 1), x.sun(2, 4, 19), x.sun(2, 4, 20), x.sun(2, 4, 21)}, 0, 1, 19, 20, 20);
        answers("of two", new int[] {x.sun(0, 5, 7), x.sun(2, 5, 7), x.sun(2, 5, 5), x.sun(2, 5, 6)}, 3, 4, 2, 3);
        answers("480", new int[] {full().sun(0, 1, 479), full().sun(0, 31, 480), full().sun(0, 31, 999), full().sun(1, 31, 999)}, 479, 480, 480, 0);
    }

    private static void afternoon() {
        says(T, "An AFTERNOON by a SEED: for so many BREATHS:");
        for (int seed : new int[] {0, 1, -1, 42, MIN, MAX}) {
            for (int q = 0; q <= 16; q += 8) {
                BubbleLeases x = busy();
                for (int breaths : new int[] {1, 2, 3, 17, 47, 48}) {
                    BubbleLeases y = played(seed, q, breaths);
                    String what = "seed " + seed + ", q " + q + ", breaths " + breaths;
                    answers(what, new int[] {x.afternoon(seed, q, breaths, 0), x.afternoon(seed, q, breaths, 1),
                        x.afternoon(seed, q, breaths, 2), x.afternoon(seed, q, breaths, 3)},
                            y.told(4), y.told(5) - x.told(5), y.told(6) - x.told(6), y.told(8));
                }
            }
        }

        says(T, "are there TENANTS: DRAW by how many TENANTS, T, by 20: blow T of 1 more than that (if it can be done);");
        // Of seed 1 the first DRAWS are 16838, 5758, 10113, 17515: TENANT 2 of 3, 0 of 1, 3 of 5; S 19; 1 of 16; 16.
        answers("who blows", new int[] {at("tenant 99 50;".repeat(3)).afternoon(1, 8, 1, 0), at("tenant 99 50;").afternoon(1, 8, 1, 0),
            at("tenant 99 50;".repeat(5)).afternoon(1, 8, 1, 0), fresh().afternoon(1, 8, 1, 0), fresh().afternoon(1, 8, 48, 1)}, 4, 1, 8, 0, 0);
        answers("if he can pay", new int[] {at("tenant 4 50;").afternoon(1, 8, 1, 1), at("tenant 3 50;").afternoon(1, 8, 1, 1)}, 1, 0);
        BubbleLeases has = after("tenant 99 50;", "blow 0 1;");
        answers("not, if he has one", new int[] {has.afternoon(1, 8, 1, 0), has.afternoon(1, 8, 1, 1)}, 1, 0);
        drifts();
    }

    /** A CORNER with VIEWS at what a BUBBLE at X just SEES and just does not: 1, 2, 4 and 8. */
    private static BubbleLeases watched(int x, int s) {
        return at("view " + (x - s) + " 1;view " + (x - s - 1) + " 2;view " + (x + s) + " 4;view " + (x + s + 1) + " 8;"
                + "tenant 99 50;".repeat(3));
    }

    private static void drifts() {
        // By seed: T of 3, S, what is drawn by 16, and how far the wind goes.
        int[][] drawn = {{0, 0, 9, 4, 18}, {1, 2, 19, 1, 16}, {-1, 2, 10, 6, 19}, {42, 1, 14, 5, 2}};
        says(T, "DRAW by 16: is it below Q: DRAW by 20: east of 1 more than that;");
        for (int[] d : drawn) {
            BubbleLeases x = watched(50 + d[4], d[2]);
            answers("seed " + d[0], new int[] {x.afternoon(d[0], d[3] + 1, 1, 3), x.afternoon(d[0], 16, 1, 3), x.afternoon(d[0], 16, 1, 0)},
                    5, 5, 1 << d[1]);
        }
        says(T, "if it is not: west of 1 more than what is DRAWN likewise (if it can be done);");
        for (int[] d : drawn) {
            BubbleLeases x = watched(50 - d[4], d[2]);
            answers("seed " + d[0], new int[] {x.afternoon(d[0], d[3], 1, 3), x.afternoon(d[0], 0, 1, 3), x.afternoon(d[0], 0, 1, 0)},
                    5, 5, 1 << d[1]);
        }
        due("without bubbles there is no wind, and nothing bursts", at("tenant 0 50;").afternoon(1, 8, 48, 2), 0);
    }

    private static void afternoonBreath() {
        says(T, "behind these, with TENANTS or without, breath.");
        BubbleLeases x = at("view 66 5;tenant 99 50;");
        Bench.law(x, "1");
        answers("blown, and burst by its first breath", new int[] {x.afternoon(1, 16, 1, 0), x.afternoon(1, 16, 1, 1), x.afternoon(1, 16, 1, 2),
            x.afternoon(1, 16, 1, 3)}, 0, 1, 1, 0);
        Bench.law(x, "2");
        answers("there behind one, with its view", new int[] {x.afternoon(1, 16, 1, 0), x.afternoon(1, 16, 1, 2), x.afternoon(1, 16, 1, 3)}, 1, 0, 5);
        // Behind the wind: by its place there, 66, it lives; where it was blown it did not.
        Bench.law(x, "place - 60");
        answers("behind the wind", new int[] {x.afternoon(1, 16, 1, 0), x.afternoon(1, 0, 1, 0)}, 1, 0);
        answers("without tenants", new int[] {fresh().afternoon(1, 8, 48, 0), fresh().afternoon(1, 8, 48, 2), at("view 5 5;").afternoon(1, 8, 48, 3)}, 0, 0, 0);
    }

    private static BubbleLeases busy() {
        return after("view 10 5;view 50 9;view 80 7;tenant 60 40;tenant 9 50;tenant 99 75;soap 2;", "blow 0 3;breath;west 9;");
    }

    /** An AFTERNOON done as WORK, five BREATHS at a time. */
    private static BubbleLeases played(int seed, int q, int breaths) {
        BubbleLeases y = busy();
        int[] s = {seed};
        StringBuilder work = new StringBuilder();
        for (int i = 1; i <= breaths; i++) {
            work.append("blow ").append(drawn(s) % 3).append(' ').append(drawn(s) % 20 + 1).append(';');
            work.append(drawn(s) % 16 < q ? "east " : "west ").append(drawn(s) % 20 + 1).append(";breath;");
            if (i % 5 == 0 || i == breaths) {
                due("a work without a fault", Bench.work(y, work.toString()) >= 0 ? 1 : 0, 1);
                work.setLength(0);
            }
        }
        return y;
    }

    /** One DRAW, by arithmetic that does not wrap by itself. */
    private static int drawn(int[] seed) {
        long whole = Math.floorMod(seed[0] * 1103515245L + 12345L, 4294967296L);
        seed[0] = (int) whole;
        return (int) (whole / 65536 % 32768);
    }

    private static void draw() {
        says(T, "DRAW: the SEED (32 bits) becomes itself times 1,103,515,245, and 12,345 (it wraps); its bits 16 to 30, what is left of them.");
        // The first DRAWS of these seeds: 0, 16838, 15929 (twice: bit 31 is none of the bits), 0, 19081.
        int[] seeds = {0, 1, -1, MAX, MIN, 42};
        int[] first = {0, 16838, 15929, 15929, 0, 19081};
        for (int i = 0; i < seeds.length; i++) {
            for (int many = 1; many <= 5; many++) {
                BubbleLeases x = at("tenant 99 50;".repeat(many));
                due("seed " + seeds[i] + " of " + many, x.afternoon(seeds[i], 8, 1, 0), 1 << first[i] % many);
            }
        }
        BubbleLeases x = busy();
        for (int what = 0; what < 4; what++) {
            due("bit 31 of a seed is never drawn", x.afternoon(-1, 8, 48, what), x.afternoon(MAX, 8, 48, what));
        }
    }
}
