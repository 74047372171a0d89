/** Promises 13 to 22, 39 and 40: what would be; what each word means stands with the Terms (QuestionEdges). */
final class AskedEdges extends Edge {
    private static final int[] LEAST = {1, 1, 0, 0, 0, 0, 0, 0};
    private static final int[] MOST = {20, 20, 4, 99, 480, 400, 999, 4};
    private static final String[] NAMES = {"size", "soap", "walls", "place", "worth", "breath", "blown", "tenant"};

    static void run() {
        promise13();
        promise14();
        promise15();
        promise16();
        promise17();
        promise18();
        promise19();
        promise20();
        promise21();
        promise22();
        promise39();
        promise40();
    }

    private static int would(BubbleLeases x, int[] a) {
        return x.would(a[0], a[1], a[2], a[3], a[4], a[5], a[6], a[7]);
    }

    private static int[] with(int[] all, int index, int value) {
        int[] copy = all.clone();
        copy[index] = value;
        return copy;
    }

    private static void promise13() {
        says(13, "LIFE by the LAW for such size (1 to 20), soap (1 to 20), walls (0 to 4), place (0 to 99), worth (0 to 480),"
                + " breath (0 to 400), blown (0 to 999), tenant (0 to 4).");
        for (int i = 0; i < 8; i++) {
            int index = i;
            range("would's " + NAMES[i], LEAST[i], MOST[i], (x, value) -> would(x, with(LEAST, index, value)));
            range("would's " + NAMES[i] + ", all others at their most", LEAST[i], MOST[i], (x, value) -> would(x, with(MOST, index, value)));
            BubbleLeases x = fresh();
            Bench.law(x, NAMES[i]);
            due(NAMES[i] + " at its least, as LIFE", would(x, with(MOST, i, LEAST[i])), Math.max(1, LEAST[i]));
            Bench.law(x, NAMES[i] + " - " + (MOST[i] - 3));
            due(NAMES[i] + " at its most, as LIFE", would(x, with(LEAST, i, MOST[i])), 3);
        }
        BubbleLeases y = rich();
        due("soap, breath, blown and tenants are as asked, not as told", y.would(3, 20, 4, 0, 0, 0, 0, 4), 60);
        due("without a law", fresh().would(20, 20, 4, 99, 480, 400, 999, 4), 34);
        due("any tenant, told or not", fresh().would(1, 1, 0, 0, 0, 0, 0, 4), 2);
    }

    private static void promise14() {
        says(14, "In n BREATHS (0 to 99), nothing else being done:");
        range("ahead", 0, 99, (x, n) -> x.ahead(n, 0));
        BubbleLeases x = after("view 50 7;tenant 9 50;tenant 9 50;", "blow 1 1;");
        Bench.law(x, "60");
        answers("till the last", new int[] {x.ahead(0, 0), x.ahead(59, 0), x.ahead(60, 0), x.ahead(99, 0)}, 2, 2, 0, 0);

        says(14, "0 TENANTS who have a BUBBLE (bits), 1 WORTH of all VIEWS that are HAD, 2 how many BURST by then.");
        answers("worth", new int[] {x.ahead(0, 1), x.ahead(59, 1), x.ahead(60, 1), x.ahead(99, 1)}, 7, 7, 0, 0);
        answers("burst", new int[] {x.ahead(0, 2), x.ahead(59, 2), x.ahead(60, 2), x.ahead(99, 2)}, 0, 0, 1, 1);
        BubbleLeases y = full();
        Bench.law(y, "tenant + 1");
        for (int n = 0; n <= 6; n++) {
            answers("one by one, " + n, new int[] {y.ahead(n, 0), y.ahead(n, 1), y.ahead(n, 2)}, 31 >> n << n, n < 5 ? 480 : 0, Math.min(5, n));
        }
        // By then: with the one that the wind took ahead of now, as told(6) has it.
        BubbleLeases z = after("tenant 9 5;tenant 9 50;", "blow 0 1;blow 1 1;west 6;");
        answers("by then", new int[] {z.told(6), z.ahead(0, 2), z.ahead(99, 2)}, 1, 1, 2);
        answers("of nothing", new int[] {fresh().ahead(99, 0), fresh().ahead(99, 1), fresh().ahead(99, 2)}, 0, 0, 0);
        range("ahead's what", 0, 2, (v, what) -> v.ahead(5, what));
    }

    private static void promise15() {
        says(15, "WALL of two TENANTS: above (half 0), below (half 1);");
        BubbleLeases x = after("tenant 9 50;tenant 9 50;tenant 9 50;", "blow 0 20;blow 1 19;blow 2 20;");
        answers("380 by 1", new int[] {x.wall(0, 1, 0), x.wall(0, 1, 1), x.wall(1, 0, 0), x.wall(1, 0, 1)}, 380, 1, 380, 1);
        answers("flat", new int[] {x.wall(0, 2, 0), x.wall(0, 2, 1)}, 0, 1);
        range("wall's half", 0, 1, (v, half) -> v.wall(0, 1, half));
        tenants("wall", (v, tenant) -> v.wall(tenant, 0, 0));
        tenants("wall with", (v, other) -> v.wall(0, other, 0));
        noSuch("wall(3, 0, 9)", Edge::rich, v -> v.wall(3, 0, 9));
        noSuch("wall(0, 3, -1)", Edge::rich, v -> v.wall(0, 3, -1));

        says(15, "NONE both: one has no BUBBLE, they do not TOUCH, or are one.");
        BubbleLeases y = after("tenant 9 10;tenant 9 31;tenant 9 10;", "blow 0 10;blow 1 10;");
        for (int half = 0; half < 2; half++) {
            answers("half " + half, new int[] {y.wall(0, 1, half), y.wall(0, 2, half), y.wall(2, 0, half), y.wall(0, 0, half), y.wall(2, 2, half)},
                    NONE, NONE, NONE, NONE, NONE);
        }
        wrong("wall(0, 0, 2)", Edge::rich, v -> v.wall(0, 0, 2));
        wrong("wall(0, 2, -1)", Edge::rich, v -> v.wall(0, 2, -1));
    }

    private static void promise16() {
        says(16, "LASTS.");
        tenants("lasts", (v, tenant) -> v.lasts(tenant));
        BubbleLeases x = full();
        Bench.law(x, "tenant + walls");
        // LIFE is 4 to 8 at first; with 0 gone 4 to 7 of the others, of which two go; then 4 and 5.
        answers("one takes a wall from another", new int[] {x.lasts(0), x.lasts(1), x.lasts(2), x.lasts(3), x.lasts(4)}, 4, 5, 5, 6, 6);
        Bench.law(x, "8 - tenant - walls");
        // LIFE is 4, 3, 2, 1, 1 at first; then 6, 5, 4; then 7, 6; then 8.
        answers("one that goes makes others last", new int[] {x.lasts(0), x.lasts(1), x.lasts(2), x.lasts(3), x.lasts(4)}, 8, 6, 4, 1, 1);
    }

    private static void promise17() {
        says(17, "PITCH of S (1 to 20): 0 the X, 1 the WORTH.");
        range("pitch", 1, 20, (x, size) -> x.pitch(size, 0));
        range("pitch's what", 0, 1, (x, what) -> x.pitch(5, what));
        answers("the most there can be", new int[] {at(FULL).pitch(1, 0), at(FULL).pitch(1, 1), at(FULL).pitch(20, 0), at(FULL).pitch(20, 1)},
                49, 480, 30, 480);
    }

    private static void promise18() {
        says(18, "STREET of S (1 to 20) and n (0 to 8).");
        range("street", 1, 20, (x, size) -> x.street(size, 2));
        range("street's n", 0, 8, (x, n) -> x.street(5, n));
        wrong("street(0, 0)", Edge::rich, x -> x.street(0, 0));
        answers("none, all", new int[] {at(FULL).street(1, 0), at(FULL).street(1, 1), at(FULL).street(20, 8)}, 0, 480, 480);
    }

    private static void promise19() {
        says(19, "FITS: 0 how many, 1 the first (NONE).");
        range("fits", 0, 1, (x, what) -> x.fits(what));
        BubbleLeases x = at(FULL);
        answers("all", new int[] {x.fits(0), x.fits(1)}, 100, 1);
        Bench.book(x, "7 4;");
        answers("the last one's", new int[] {x.fits(0), x.fits(1)}, 20, 401);
        Bench.book(x, "7 4;6 5;");
        answers("none", new int[] {x.fits(0), x.fits(1)}, 0, NONE);
        answers("of nobody", new int[] {fresh().fits(0), fresh().fits(1)}, 0, NONE);
    }

    private static void promise20() {
        says(20, "LOOK: 0 the VIEW, 1 how many are left at the worst;");
        range("look", 0, 1, (x, what) -> x.look(what));
        BubbleLeases x = at(FULL);
        answers("all are alike: 20 by each", new int[] {x.look(0), x.look(1)}, 0, 20);
        Bench.book(x, "0 4;1 4;2 4;3 4;4 4;5 4;6 4;");
        answers("the last", new int[] {x.look(0), x.look(1)}, 7, 20);

        says(20, "NONE both: all are in lines, or there are none.");
        Bench.book(x, "0 4;1 4;2 4;3 4;4 4;5 4;6 4;7 4;");
        answers("all are in lines", new int[] {x.look(0), x.look(1)}, NONE, NONE);
        answers("there are none", new int[] {fresh().look(0), fresh().look(1)}, NONE, NONE);
        answers("there are none, but tenants", new int[] {at("tenant 9 9;").look(0), at("tenant 9 9;").look(1)}, NONE, NONE);
    }

    private static void promise21() {
        says(21, "STANDS of n (0 to 12), q (0 to 16): above (half 0), below (half 1), in least terms.");
        range("stands", 0, 12, (x, n) -> x.stands(n, 3, 0));
        range("stands' q", 0, 16, (x, q) -> x.stands(3, q, 0));
        range("stands' half", 0, 1, (x, half) -> x.stands(3, 3, half));
        BubbleLeases x = fresh();
        due("above", x.stands(2, 4, 0), 9);
        due("below", x.stands(2, 4, 1), 16);
        due("the greatest below", x.stands(12, 3, 1), 281474976710656L);
        due("0 by 1", x.stands(12, 16, 0) * 10 + x.stands(12, 16, 1), 1);
    }

    private static void promise22() {
        says(22, "MEAN of n (0 to 12), q (0 to 16): above (half 0), below (half 1), in least terms (of n 0: 0 by 1).");
        range("mean", 0, 12, (x, n) -> x.mean(n, 3, 0));
        range("mean's q", 0, 16, (x, q) -> x.mean(3, q, 0));
        range("mean's half", 0, 1, (x, half) -> x.mean(3, 3, half));
        BubbleLeases x = fresh();
        for (int q = 0; q <= 16; q++) {
            due("of n 0, q " + q + ", above", x.mean(0, q, 0), 0);
            due("of n 0, q " + q + ", below", x.mean(0, q, 1), 1);
        }
        due("above", x.mean(2, 8, 0), 3);
        due("below", x.mean(2, 8, 1), 4);
    }

    private static void promise39() {
        says(39, "An AFTERNOON of so many BREATHS (1 to 48), Q (0 to 16):");
        range("afternoon's breaths", 1, 48, (x, breaths) -> x.afternoon(1, 8, breaths, 0));
        range("afternoon's q", 0, 16, (x, q) -> x.afternoon(1, q, 5, 0));
        for (int seed : new int[] {MIN, -1, 0, MAX}) {
            allowed("any seed, " + seed, Edge::rich, x -> x.afternoon(seed, 8, 48, 0));
        }

        says(39, "0 TENANTS who have a BUBBLE then (bits), 1 how many were blown in it, 2 how many BURST in it, 3 WORTH of all VIEWS that are HAD then.");
        range("afternoon's what", 0, 3, (x, what) -> x.afternoon(1, 8, 5, what));
        // Ahead of it two were blown and one burst: in it one more bursts, and none is blown without money.
        BubbleLeases x = after("view 50 7;tenant 2 50;tenant 0 50;", "blow 0 1;west 20;west 20;west 20;blow 0 1;");
        Bench.law(x, "2");
        answers("ahead of it", new int[] {x.told(4), x.told(5), x.told(6), x.told(8)}, 1, 2, 1, 7);
        answers("in it, behind one breath", new int[] {x.afternoon(1, 0, 1, 0), x.afternoon(1, 0, 1, 1), x.afternoon(1, 0, 1, 2), x.afternoon(1, 0, 1, 3)},
                1, 0, 0, 0);
        answers("in it, behind two", new int[] {x.afternoon(1, 0, 2, 0), x.afternoon(1, 0, 2, 1), x.afternoon(1, 0, 2, 2), x.afternoon(1, 0, 2, 3)},
                0, 0, 1, 0);
    }

    private static void promise40() {
        says(40, "Of so many SEEDS (1 to 10; seed, seed and 1, ..):");
        range("span's many", 1, 10, (x, many) -> x.span(1, many, 8, 5, 0, 0));
        range("span's q", 0, 16, (x, q) -> x.span(1, 3, q, 5, 0, 0));
        range("span's breaths", 1, 48, (x, breaths) -> x.span(1, 3, 8, breaths, 0, 0));
        for (int seed : new int[] {MIN, -9, 0, MAX - 9, MAX - 8, MAX}) {
            BubbleLeases x = rich();
            int[] burst = new int[10];
            int[] having = new int[3];
            for (int i = 0; i < 10; i++) {
                // It wraps from the greatest to the least.
                burst[i] = x.afternoon(seed + i, 8, 9, 2);
                int bits = x.afternoon(seed + i, 8, 9, 0);
                for (int t = 0; t < 3; t++) {
                    having[t] += bits >> t & 1;
                }
            }
            java.util.Arrays.sort(burst);
            answers("ten from " + seed + " on", new int[] {x.span(seed, 10, 8, 9, 0, 0), x.span(seed, 10, 8, 9, 1, 2), x.span(seed, 10, 8, 9, 2, 0),
                x.span(seed, 10, 8, 9, 2, 1), x.span(seed, 10, 8, 9, 2, 2)}, burst[0], burst[9], having[0], having[1], having[2]);
        }

        says(40, "0 the fewest BURST in it, 1 the most, 2 by how many a TENANT has a BUBBLE then.");
        range("span's what", 0, 2, (x, what) -> x.span(1, 3, 8, 5, what, 0));
        BubbleLeases x = rich();
        int only = x.afternoon(7, 8, 30, 2);
        answers("of one seed both are one", new int[] {x.span(7, 1, 8, 30, 0, 0), x.span(7, 1, 8, 30, 1, 0)}, only, only);
        // Without money nobody blows: what is there bursts by the breath in all ten.
        BubbleLeases y = after("tenant 1 50;tenant 0 50;", "blow 0 1;");
        Bench.law(y, "1");
        answers("one bursts in each", new int[] {y.span(1, 10, 8, 1, 0, 0), y.span(1, 10, 8, 1, 1, 0), y.span(1, 10, 8, 1, 2, 0)}, 1, 1, 0);
        Bench.law(y, "60");
        answers("none bursts in any", new int[] {y.span(1, 10, 8, 1, 0, 0), y.span(1, 10, 8, 1, 1, 0), y.span(1, 10, 8, 1, 2, 0), y.span(1, 10, 8, 1, 2, 1),
            y.span(1, 3, 8, 1, 2, 0)}, 0, 0, 10, 0, 3);

        says(40, "(IllegalArgumentException: no such TENANT, also for 0, 1.)");
        for (int what = 0; what < 3; what++) {
            int w = what;
            range("span's tenant for " + w, 0, 2, (v, tenant) -> v.span(1, 3, 8, 5, w, tenant));
            wrong("span of nobody for " + w, Edge::fresh, v -> v.span(1, 3, 8, 5, w, 0));
            allowed("span's last of five for " + w, Edge::full, v -> v.span(1, 3, 8, 5, w, 4));
            wrong("span's sixth for " + w, Edge::full, v -> v.span(1, 3, 8, 5, w, 5));
        }
    }
}
