/** Promises 23 to 25, 29, 30 and 34 to 36: small questions. */
final class SmallEdges extends Edge {
    static void run() {
        promise23();
        promise24();
        promise25();
        promise29();
        promise30();
        promise34();
        promise35();
        promise36();
    }

    private static void promise23() {
        says(23, "SURE of n (0 to 999).");
        range("sure", 0, 999, (x, n) -> x.sure(n));
        answers("the ends", new int[] {fresh().sure(0), fresh().sure(1), fresh().sure(998), fresh().sure(999)}, NONE, 1, 4, 3);
    }

    private static void promise24() {
        says(24, "PAY by v, w (0 to 99):");
        range("pay's v", 0, 99, (x, v) -> x.pay(v, 5, 0));
        range("pay's w", 0, 99, (x, w) -> x.pay(5, w, 0));

        says(24, "0 how many RESTS, 1 the first (10 times what the one does, 0 he pays, 1 not, and the other one; NONE),"
                + " 2 what both have by it together (0 without).");
        range("pay's what", 0, 2, (x, what) -> x.pay(5, 2, what));
        BubbleLeases x = fresh();
        // With just so much for one who pays alone he may as well not; without such a one there is always none who pays.
        answers("v is 2 w less 1", new int[] {x.pay(9, 5, 0), x.pay(9, 5, 1), x.pay(9, 5, 2)}, 1, 11, 0);
        answers("v is 2 w", new int[] {x.pay(10, 5, 0), x.pay(10, 5, 1), x.pay(10, 5, 2)}, 3, 1, 10);
        answers("v is 2 w and 1", new int[] {x.pay(11, 5, 0), x.pay(11, 5, 1), x.pay(11, 5, 2)}, 2, 1, 12);
        answers("w is 0", new int[] {x.pay(11, 0, 0), x.pay(11, 0, 1), x.pay(11, 0, 2)}, 3, 0, 22);
        answers("both are 0", new int[] {x.pay(0, 0, 0), x.pay(0, 0, 1), x.pay(0, 0, 2)}, 4, 0, 0);
        for (int v = 0; v <= 99; v += 9) {
            due("there is always one, " + v, x.pay(v, 99 - v, 0) > 0 ? 1 : 0, 1);
        }
    }

    private static void promise25() {
        says(25, "What a TENANT gets of n (0 to 999) by SUN among told TENANTS (0, if he is none of them).");
        range("sun's n", 0, 999, (x, n) -> x.sun(0, 7, n));
        tenants("sun", (x, tenant) -> x.sun(tenant, 0, 5));
        noSuch("sun(3, 9, -1)", Edge::rich, x -> x.sun(3, 9, -1));
        noSuch("sun(-1, -1, 1000)", Edge::rich, x -> x.sun(-1, -1, 1000));
        BubbleLeases x = after("view 10 6;view 50 8;tenant 9 10;tenant 9 50;", "blow 0 1;blow 1 1;");
        answers("one of them, or not", new int[] {x.sun(0, 1, 999), x.sun(0, 2, 999), x.sun(0, 3, 999), x.sun(0, 0, 999)}, 6, 0, 6, 0);
        answers("who is none of them takes nothing", new int[] {x.sun(0, 1, 6), x.sun(0, 3, 6), x.sun(1, 3, 6), x.sun(1, 2, 6)}, 6, 3, 3, 6);

        says(25, "IllegalArgumentException: bits of no TENANTS.");
        range("sun's tenants", 0, 7, (v, bits) -> v.sun(0, bits, 5));
        for (int bits : new int[] {8, 9, 15, 16, 1 << 30, MIN | 1}) {
            wrong("sun(0, " + bits + ", 5) of three", Edge::rich, v -> v.sun(0, bits, 5));
            wrong("sun(1, " + bits + ", 5) of three", Edge::rich, v -> v.sun(1, bits, 5));
        }
        allowed("sun(0, 31, 5) of five", Edge::full, v -> v.sun(0, 31, 5));
        wrong("sun(0, 32, 5) of five", Edge::full, v -> v.sun(0, 32, 5));
        wrong("sun(0, 63, 5) of five", Edge::full, v -> v.sun(0, 63, 5));
    }

    private static void promise29() {
        says(29, "WORTH of what a TENANT would have, were a BUBBLE of S (1 to 20) blown by him now (whether he can pay or not);");
        range("offer", 1, 20, (x, size) -> x.offer(0, size));
        tenants("offer", (x, tenant) -> x.offer(tenant, 5));
        noSuch("offer(3, 0)", Edge::rich, x -> x.offer(3, 0));
        noSuch("offer(-1, 21)", Edge::rich, x -> x.offer(-1, 21));
        String corner = "view 10 1;view 12 2;view 30 4;view 31 8;tenant 0 10;tenant 9 14;tenant 0 99;";
        BubbleLeases x = at(corner);
        answers("without money", new int[] {x.offer(0, 1), x.offer(0, 2), x.offer(0, 19), x.offer(0, 20), x.offer(2, 20)}, 1, 3, 3, 7, 0);
        Bench.work(x, "blow 1 17;");
        // The other one at 14 has what is nearer to it; of the VIEW at 12 both are 2 away, which is the first one's.
        answers("less what another one has", new int[] {x.offer(0, 1), x.offer(0, 2), x.offer(0, 20)}, 1, 3, 3);
        BubbleLeases y = at("view 50 5;tenant 9 48;tenant 9 52;");
        Bench.work(y, "blow 0 2;");
        answers("alike: the least number has it", new int[] {y.offer(1, 2), y.offer(1, 20)}, 0, 0);
        BubbleLeases z = at("view 50 5;tenant 9 48;tenant 9 52;");
        Bench.work(z, "blow 1 2;");
        answers("alike: he is the least number", new int[] {z.offer(0, 1), z.offer(0, 2)}, 0, 5);
        due("all", at(FULL).offer(4, 1), 480);

        says(29, "NONE: he has one.");
        answers("he has one", new int[] {x.offer(1, 1), full().offer(4, 20)}, NONE, NONE);
        wrong("offer(0, 0) of one who has one", Edge::rich, v -> v.offer(0, 0));
        wrong("offer(0, 21) of one who has one", Edge::rich, v -> v.offer(0, 21));
    }

    private static void promise30() {
        says(30, "BUBBLES that would BURST by east (what 0) or west (1) of n (1 to 20), as bits of TENANTS.");
        range("lost", 1, 20, (x, n) -> x.lost(n, 0));
        range("lost by west", 1, 20, (x, n) -> x.lost(n, 1));
        range("lost's what", 0, 1, (x, what) -> x.lost(5, what));
        BubbleLeases x = after("tenant 9 0;tenant 9 19;tenant 9 20;tenant 9 79;tenant 9 80;", FULL_WORK);
        answers("east", new int[] {x.lost(1, 0), x.lost(19, 0), x.lost(20, 0)}, 0, 0, 16);
        answers("west", new int[] {x.lost(1, 1), x.lost(19, 1), x.lost(20, 1)}, 1, 1, 3);
        BubbleLeases y = after("tenant 9 99;tenant 9 98;tenant 9 0;", "blow 0 20;blow 1 1;");
        answers("at the end", new int[] {y.lost(1, 0), y.lost(2, 0), y.lost(20, 1)}, 1, 3, 0);
        answers("none is there", new int[] {at(FULL).lost(20, 0), fresh().lost(20, 1)}, 0, 0);
        answers("none did", new int[] {y.told(6), y.told(4)}, 0, 3);
    }

    private static void promise34() {
        says(34, "The least S (1 to 20) by which a BUBBLE, were it blown by a TENANT where he stands, would SEE a VIEW (whether he has one, can pay or not);");
        BubbleLeases x = at("view 50 5;view 51 5;view 52 5;view 70 5;view 30 5;tenant 0 50;");
        answers("so far", new int[] {x.needs(0, 0), x.needs(0, 1), x.needs(0, 2), x.needs(0, 3), x.needs(0, 4)}, 1, 1, 2, 20, 20);
        BubbleLeases y = after("view 50 5;tenant 9 40;", "blow 0 1;east 9;run 0 45;");
        due("where he stands, not his bubble", y.needs(0, 0), 5);
        due("whether he has one", full().needs(4, 7), 1);
        tenants("needs", (v, tenant) -> v.told(0) == 0 ? v.lasts(tenant) : v.needs(tenant, 0));
        views("needs'", (v, view) -> v.told(1) == 0 ? v.view(view, 0) : v.needs(0, view));
        noSuch("needs(0, 0) of neither", Edge::fresh, v -> v.needs(0, 0));
        noSuch("needs(0, 0) without views", () -> at("tenant 9 9;"), v -> v.needs(0, 0));
        noSuch("needs(0, 0) without tenants", () -> at("view 9 9;"), v -> v.needs(0, 0));
        noSuch("needs(3, 4) of three and four", Edge::rich, v -> v.needs(3, 4));

        says(34, "NONE.");
        BubbleLeases z = at("view 71 5;view 29 5;view 0 5;view 99 5;tenant 9 50;tenant 9 0;");
        answers("farther than 20", new int[] {z.needs(0, 0), z.needs(0, 1), z.needs(0, 2), z.needs(0, 3), z.needs(1, 3), z.needs(1, 2)},
                NONE, NONE, NONE, NONE, NONE, 1);
    }

    private static void promise35() {
        says(35, "TENANTS (bits) to whom a TENANT could sell his BUBBLE for n (0 to 99) now.");
        range("buyers", 0, 99, (x, n) -> x.buyers(0, n));
        tenants("buyers", (x, tenant) -> x.buyers(tenant, 0));
        noSuch("buyers(3, 100)", Edge::rich, x -> x.buyers(3, 100));
        noSuch("buyers(-1, -1)", Edge::rich, x -> x.buyers(-1, -1));
        BubbleLeases x = after("tenant 9 10;tenant 0 20;tenant 7 30;tenant 99 40;tenant 9 50;", "blow 0 1;blow 4 1;");
        answers("by their money", new int[] {x.buyers(0, 0), x.buyers(0, 1), x.buyers(0, 7), x.buyers(0, 8), x.buyers(0, 99)}, 14, 12, 12, 8, 8);
        answers("he has none", new int[] {x.buyers(1, 0), x.buyers(3, 99)}, 0, 0);
        BubbleLeases last = after("tenant 5 10;tenant 6 20;tenant 9 30;", "blow 2 1;");
        answers("the first may buy, too", new int[] {last.buyers(2, 0), last.buyers(2, 5), last.buyers(2, 6), last.buyers(2, 7)}, 3, 3, 2, 0);
        due("all have one", full().buyers(0, 0), 0);
        due("nobody else is there", after("tenant 9 5;", "blow 0 1;").buyers(0, 0), 0);
        BubbleLeases y = after("tenant 9 10;tenant 99 20;tenant 5 30;", "blow 0 1;sell 0 1 0;blow 0 1;sell 1 2 5;");
        answers("who sold may buy", new int[] {y.buyers(2, 99), y.buyers(0, 0), y.buyers(1, 0)}, 2, 2, 0);
    }

    private static void promise36() {
        says(36, "The greatest S a TENANT could pay for now (20 at most; 0: none);");
        int[] due = {0, 4, 9, 14, 19, 20, 20};
        for (int money = 0; money < due.length; money++) {
            due("money " + money, at("tenant " + money + " 5;").affords(0), due[money]);
        }
        due("money 99", at("tenant 99 5;").affords(0), 20);
        due("what is left", after("tenant 5 5;", "blow 0 9;west 6;").affords(0), 14);
        due("more than 99", after("tenant 99 5;tenant 99 5;", "blow 0 1;sell 0 1 99;").affords(0), 20);
        tenants("affords", (x, tenant) -> x.affords(tenant));

        says(36, "NONE: he has a BUBBLE.");
        answers("he has one, with money or without", new int[] {full().affords(0), after("tenant 1 5;", "blow 0 1;").affords(0)}, NONE, NONE);
        due("he sold it", after("tenant 1 5;tenant 1 5;", "blow 0 1;sell 0 1 0;").affords(0), 0);
    }
}
