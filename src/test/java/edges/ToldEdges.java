/** Promises 9 to 12, 26 to 28, 31 to 33, 37 and 38: what is there. */
final class ToldEdges extends Edge {
    static void run() {
        promise9();
        promise9Refused();
        promise10();
        promise11();
        promise12();
        promise26();
        promise27();
        promise28();
        promise31();
        promise32();
        promise33();
        promise37();
        promise38();
    }

    private static void told(String what, BubbleLeases x, int number, int want) {
        due("told(" + number + "), " + what, x.told(number), want);
    }

    private static void promise9() {
        says(9, "0 VIEWS, 1 TENANTS, 2 soap, 3 the BREATH, 4 TENANTS who have a BUBBLE (bits),");
        told("none", fresh(), 0, 0);
        told("eight", full(), 0, 8);
        told("none", fresh(), 1, 0);
        told("five", full(), 1, 5);
        told("without", full(), 2, 8);
        told("1", at("soap 1;"), 2, 1);
        told("20", at("soap 20;"), 2, 20);
        told("0", full(), 3, 0);
        told("400", after("", "again 19[again 9[breath;];];", "again 19[again 9[breath;];];", "again 19[again 9[breath;];];"), 3, 400);
        told("none", at(FULL), 4, 0);
        told("all", full(), 4, 31);
        told("the last", after(FULL, "blow 4 1;"), 4, 16);

        says(9, "5 how many were blown by now, 6 how many BURST by now, 7 MONEY of all TENANTS, 8 WORTH of all VIEWS that are HAD, 9 lines of the BOOK,");
        told("none", at(FULL), 5, 0);
        told("five", full(), 5, 5);
        told("refused ones not", after(FULL, "blow 0 1;blow 0 1;"), 5, 1);
        told("that burst, too", after("tenant 9 5;", "blow 0 1;west 6;blow 0 1;"), 5, 2);
        told("none", full(), 6, 0);
        told("five", after(FULL, FULL_WORK, "east 20;east 20;east 20;"), 6, 5);
        told("twice one", after("tenant 9 5;", "blow 0 1;west 6;blow 0 1;west 6;"), 6, 2);
        told("of nobody", fresh(), 7, 0);
        told("all that there can be", at(FULL), 7, 495);
        told("five paid", full(), 7, 490);
        told("sold, none is lost", after("tenant 9 5;tenant 9 5;", "blow 0 1;sell 0 1 9;"), 7, 17);
        told("none is had", at(FULL), 8, 0);
        told("all are had, once each", full(), 8, 480);
        told("some", after("view 5 3;view 6 4;view 7 5;tenant 9 5;", "blow 0 1;"), 8, 7);
        told("none", full(), 9, 0);
        BubbleLeases x = full();
        Bench.book(x, "0 5;1 5;2 5;3 5;4 5;5 5;6 5;7 5;");
        told("eight", x, 9, 8);
        Bench.book(x, "0 5;0 5;");
        told("eight still", x, 9, 8);

        says(9, "10 STEPS REFUSED by the latest WORK (0 ahead of any, behind undo(), restore()),");
        BubbleLeases y = at(FULL);
        told("ahead of any", y, 10, 0);
        Bench.work(y, "again 30[again 30[keep 0;];];");
        told("200 begun, 8 of which are agains", y, 10, 192);
        Bench.work(y, "keep 0;breath");
        told("a work at fault is none", y, 10, 192);
        Bench.work(y, "breath;");
        told("none by the latest", y, 10, 0);
        Bench.work(y, "keep 0;");
        told("one", y, 10, 1);
        y.image();
        told("one still", y, 10, 1);
        y.undo();
        told("behind undo()", y, 10, 0);
        Bench.work(y, "keep 0;");
        y.restore();
        told("behind restore()", y, 10, 0);
        Bench.work(y, "keep 0;");
        Bench.corner(y, FULL);
        told("behind a new corner", y, 10, 0);

        says(9, "11 how many twos of BUBBLES TOUCH.");
        told("none", at(FULL), 11, 0);
        told("all ten", full(), 11, 10);
        told("one alone", after(FULL, "blow 3 20;"), 11, 0);
        told("a chain of five", after("tenant 9 10;tenant 9 12;tenant 9 14;tenant 9 16;tenant 9 18;", FULL_WORK), 11, 4);
        told("none of five", after("tenant 9 10;tenant 9 13;tenant 9 16;tenant 9 19;tenant 9 22;", FULL_WORK), 11, 0);
    }

    private static void promise9Refused() {
        says(9, "IllegalArgumentException: another what (so below).");
        range("told", 0, 11, (x, what) -> x.told(what));
        wrong("told(12) of a new object", Edge::fresh, x -> x.told(12));
    }

    private static void promise10() {
        says(10, "Of a VIEW: 0 X, 1 W, 2 by whom it is HAD (NONE), 3 by how many BUBBLES it is SEEN.");
        BubbleLeases x = full();
        answers("five see it", new int[] {x.view(7, 0), x.view(7, 1), x.view(7, 2), x.view(7, 3)}, 50, 60, 0, 5);
        BubbleLeases y = after("view 0 0;view 99 60;tenant 9 1;tenant 9 98;tenant 9 97;", "blow 2 2;blow 1 1;");
        answers("none sees it", new int[] {y.view(0, 0), y.view(0, 1), y.view(0, 2), y.view(0, 3)}, 0, 0, NONE, 0);
        answers("two see it", new int[] {y.view(1, 0), y.view(1, 1), y.view(1, 2), y.view(1, 3)}, 99, 60, 1, 2);
        range("view's what", 0, 3, (v, what) -> v.view(3, what));

        says(10, "NoSuchElementException: no such VIEW, TENANT (so below, ahead of others).");
        views("view", (v, view) -> v.view(view, 0));
        noSuch("view(4, 9)", Edge::rich, v -> v.view(4, 9));
        noSuch("view(-1, -1)", Edge::rich, v -> v.view(-1, -1));
    }

    private static void promise11() {
        says(11, "Of a TENANT: 0 MONEY, 1 where he stands, 2 1 he has a BUBBLE, 0 not,");
        BubbleLeases x = after("tenant 99 99;tenant 0 0;tenant 5 50;", "blow 0 20;run 0 0;breath;sell 0 1 0;blow 2 20;");
        answers("the first", new int[] {x.tenant(0, 0), x.tenant(0, 1), x.tenant(0, 2)}, 94, 0, 0);
        answers("the second", new int[] {x.tenant(1, 0), x.tenant(1, 1), x.tenant(1, 2)}, 0, 0, 1);
        answers("the third", new int[] {x.tenant(2, 0), x.tenant(2, 1), x.tenant(2, 2)}, 0, 50, 1);
        range("tenant's what", 0, 5, (v, what) -> v.tenant(2, what));
        tenants("tenant", (v, tenant) -> v.tenant(tenant, 0));
        noSuch("tenant(3, 9)", Edge::rich, v -> v.tenant(3, 9));
        noSuch("tenant(-1, -1)", Edge::rich, v -> v.tenant(-1, -1));

        says(11, "3 VIEWS he has (bits), 4 WORTH of these, 5 TENANTS whose BUBBLES TOUCH his (bits).");
        BubbleLeases y = full();
        answers("who has all", new int[] {y.tenant(0, 3), y.tenant(0, 4), y.tenant(0, 5)}, 255, 480, 30);
        answers("who has none, but sees all", new int[] {y.tenant(4, 3), y.tenant(4, 4), y.tenant(4, 5)}, 0, 0, 15);
        BubbleLeases z = after("view 50 7;view 60 0;view 99 9;tenant 9 55;tenant 9 60;tenant 9 90;", "blow 0 5;blow 1 1;");
        answers("one view", new int[] {z.tenant(0, 3), z.tenant(0, 4), z.tenant(0, 5)}, 1, 7, 2);
        answers("one of no worth", new int[] {z.tenant(1, 3), z.tenant(1, 4), z.tenant(1, 5)}, 2, 0, 1);
        answers("no bubble", new int[] {z.tenant(2, 3), z.tenant(2, 4), z.tenant(2, 5)}, 0, 0, 0);
    }

    private static void promise12() {
        says(12, "Of a TENANT's BUBBLE: 0 S, 1 X, 2 AGE, 3 LIFE now, 4 VIEWS it SEES (bits);");
        BubbleLeases x = after("view 99 5;view 79 5;view 78 5;tenant 9 99;tenant 9 0;soap 20;", "blow 0 20;blow 1 1;breath;");
        answers("at 99", new int[] {x.bubble(0, 0), x.bubble(0, 1), x.bubble(0, 2), x.bubble(0, 3), x.bubble(0, 4)}, 20, 99, 1, 30, 3);
        answers("at 0", new int[] {x.bubble(1, 0), x.bubble(1, 1), x.bubble(1, 2), x.bubble(1, 3), x.bubble(1, 4)}, 1, 0, 1, 40, 0);
        Bench.law(x, "breath * 10 + walls + 3");
        answers("LIFE is now's", new int[] {x.bubble(0, 3), x.bubble(1, 3)}, 13, 13);
        due("sees, though another one has it", full().bubble(4, 4), 255);
        range("bubble's what", 0, 4, (v, what) -> v.bubble(2, what));
        tenants("bubble", (v, tenant) -> v.bubble(tenant, 0));
        noSuch("bubble(3, 9)", Edge::rich, v -> v.bubble(3, 9));

        says(12, "NONE all: he has none.");
        for (int what = 0; what < 5; what++) {
            due("never blown", at(Bench.CORNER).bubble(1, what), NONE);
            due("burst", after("tenant 9 5;", "blow 0 1;west 6;").bubble(0, what), NONE);
            due("sold", after("tenant 9 5;tenant 9 5;", "blow 0 1;sell 0 1 0;").bubble(0, what), NONE);
        }
        wrong("bubble(0, 5) of one who has none", Edge::three, v -> v.bubble(0, 5));
        wrong("bubble(0, -1) of one who has none", Edge::three, v -> v.bubble(0, -1));
    }

    private static void promise26() {
        says(26, "Of the TENANTS who have a BUBBLE that one who has most WORTH (what 0), of alike ones the first, how much (1);");
        BubbleLeases x = full();
        answers("all of it", new int[] {x.richest(0), x.richest(1)}, 0, 480);
        BubbleLeases y = after("view 10 5;view 50 5;view 90 6;tenant 9 70;tenant 9 10;tenant 9 50;tenant 9 90;", "blow 0 1;blow 1 1;blow 2 1;");
        answers("of alike ones the first", new int[] {y.richest(0), y.richest(1)}, 1, 5);
        Bench.work(y, "blow 3 1;");
        answers("one more is more", new int[] {y.richest(0), y.richest(1)}, 3, 6);
        BubbleLeases z = after("view 10 5;tenant 9 10;tenant 9 80;tenant 9 90;", "blow 2 1;blow 1 1;");
        answers("of no worth: the first who has a bubble", new int[] {z.richest(0), z.richest(1)}, 1, 0);
        range("richest", 0, 1, (v, what) -> v.richest(what));

        says(26, "NONE both: nobody has a BUBBLE.");
        answers("none was blown", new int[] {at(FULL).richest(0), at(FULL).richest(1)}, NONE, NONE);
        answers("no tenants", new int[] {fresh().richest(0), fresh().richest(1)}, NONE, NONE);
        BubbleLeases burst = after("view 5 5;tenant 9 5;", "blow 0 1;west 6;");
        answers("it burst", new int[] {burst.richest(0), burst.richest(1)}, NONE, NONE);
    }

    private static void promise27() {
        says(27, "VIEWS (bits) that no BUBBLE SEES.");
        answers("none, all, all seen", new int[] {fresh().idle(), at(FULL).idle(), full().idle()}, 0, 255, 0);
        BubbleLeases x = after("view 50 0;view 55 5;view 56 5;view 45 5;view 44 5;tenant 9 50;", "blow 0 5;");
        due("as far as S, and one farther", x.idle(), 4 | 16);
    }

    private static void promise28() {
        says(28, "TENANTS (bits) who could keep their BUBBLE now.");
        answers("none of none", new int[] {fresh().under(), at(FULL).under()}, 0, 0);
        due("all are 0", full().under(), 0);
        due("all are 1", after(FULL, FULL_WORK, "breath;").under(), 31);
        BubbleLeases x = after("tenant 9 50;tenant 9 50;tenant 9 50;tenant 9 50;",
                "blow 0 5;blow 1 5;blow 2 5;breath;run 0 55;run 1 56;keep 2;");
        due("as far as S; farther; 0; none", x.under(), 1);
        Bench.work(x, "run 1 45;breath;");
        due("three", x.under(), 7);
    }

    private static void promise31() {
        says(31, "Who is come to from a TENANT by BUBBLES that TOUCH, on and on, as bits of TENANTS (himself, too; 0: he has none).");
        // A chain that goes 0, 4, 1, 3, 2, as far apart as both S.
        BubbleLeases x = after("tenant 9 10;tenant 9 14;tenant 9 18;tenant 9 16;tenant 9 12;", FULL_WORK);
        for (int t = 0; t < 5; t++) {
            due("all, from " + t, x.terrace(t), 31);
        }
        // The same with one more between 1 and 3.
        BubbleLeases y = after("tenant 9 10;tenant 9 14;tenant 9 19;tenant 9 17;tenant 9 12;", FULL_WORK);
        answers("two ends", new int[] {y.terrace(0), y.terrace(1), y.terrace(2), y.terrace(3), y.terrace(4)}, 19, 19, 12, 12, 19);
        answers("none, alone", new int[] {at(FULL).terrace(4), after(FULL, "blow 3 1;").terrace(3), after(FULL, "blow 3 1;").terrace(4)}, 0, 8, 0);
        tenants("terrace", (v, tenant) -> v.terrace(tenant));
    }

    private static void promise32() {
        says(32, "By how much two TENANTS' BUBBLES lie over each other: both S less how far their X are apart (below 0: so far they do not TOUCH);");
        BubbleLeases x = after("tenant 9 0;tenant 9 40;tenant 9 99;", "blow 0 20;blow 1 20;blow 2 1;");
        answers("just touching, 0", new int[] {x.overlap(0, 1), x.overlap(1, 0), x.tenant(0, 5)}, 0, 0, 2);
        answers("the farthest", new int[] {x.overlap(0, 2), x.overlap(2, 0)}, -78, -78);
        BubbleLeases y = after("tenant 9 10;tenant 9 13;tenant 9 10;", "blow 0 1;blow 1 1;blow 2 20;");
        answers("one too far", new int[] {y.overlap(0, 1), y.told(11)}, -1, 2);
        due("at one place", y.overlap(0, 2), 21);
        due("the most", after("tenant 9 5;tenant 9 5;", "blow 0 20;blow 1 20;").overlap(0, 1), 40);
        tenants("overlap", (v, tenant) -> v.overlap(tenant, 0));
        tenants("overlap with", (v, other) -> v.overlap(0, other));

        says(32, "Integer.MIN_VALUE: one has none, or they are one.");
        BubbleLeases z = after("tenant 9 5;tenant 9 5;tenant 9 5;", "blow 0 20;");
        answers("one has none, both, are one", new int[] {z.overlap(0, 1), z.overlap(1, 0), z.overlap(1, 2), z.overlap(0, 0), z.overlap(1, 1)},
                MIN, MIN, MIN, MIN, MIN);
    }

    private static void promise33() {
        says(33, "The VIEW of most WORTH that no BUBBLE SEES (what 0), of alike ones the first, how much (1);");
        BubbleLeases x = at("view 50 60;view 10 7;view 90 9;view 91 9;view 20 0;tenant 9 50;tenant 9 90;tenant 9 10;");
        answers("all", new int[] {x.vacant(0), x.vacant(1)}, 0, 60);
        Bench.work(x, "blow 0 1;");
        answers("of alike ones the first", new int[] {x.vacant(0), x.vacant(1)}, 2, 9);
        Bench.work(x, "blow 1 1;");
        answers("the last but one", new int[] {x.vacant(0), x.vacant(1)}, 1, 7);
        Bench.work(x, "blow 2 1;");
        answers("of no worth", new int[] {x.vacant(0), x.vacant(1)}, 4, 0);
        range("vacant", 0, 1, (v, what) -> v.vacant(what));

        says(33, "NONE both: all are SEEN, or there are none.");
        answers("all are seen", new int[] {full().vacant(0), full().vacant(1)}, NONE, NONE);
        answers("there are none", new int[] {fresh().vacant(0), fresh().vacant(1)}, NONE, NONE);
    }

    private static void promise37() {
        says(37, "WORTH of all VIEWS together that are at an X from one to another one (0 to 99 both) and HAD (what 0), or not HAD (1);");
        BubbleLeases x = after("view 0 1;view 40 2;view 41 4;view 60 8;view 61 16;view 99 32;tenant 9 50;", "blow 0 10;");
        answers("had", new int[] {x.front(0, 99, 0), x.front(40, 60, 0), x.front(41, 60, 0), x.front(40, 59, 0), x.front(60, 60, 0), x.front(61, 99, 0)},
                14, 14, 12, 6, 8, 0);
        answers("not had", new int[] {x.front(0, 99, 1), x.front(1, 99, 1), x.front(0, 98, 1), x.front(0, 0, 1), x.front(99, 99, 1), x.front(40, 60, 1)},
                49, 48, 17, 1, 32, 0);
        answers("all, once each", new int[] {full().front(50, 50, 0), at(FULL).front(50, 50, 1), full().front(51, 99, 0)}, 480, 480, 0);
        range("front's first", 0, 99, (v, from) -> v.front(from, 50, 0));
        range("front's second", 0, 99, (v, to) -> v.front(50, to, 1));
        range("front's what", 0, 1, (v, what) -> v.front(0, 99, what));

        says(37, "0, if the second is less.");
        answers("one less, and all", new int[] {x.front(60, 59, 0), x.front(41, 40, 0), x.front(99, 0, 0), x.front(99, 0, 1)}, 0, 0, 0, 0);
        wrong("front(99, -1, 0)", Edge::rich, v -> v.front(99, -1, 0));
    }

    private static void promise38() {
        says(38, "The TENANT whose BUBBLE is nearest to a VIEW by its X, whether it SEES it or not (what 0), of alike ones the first, how far (1);");
        BubbleLeases x = after("view 50 5;view 0 5;view 99 5;tenant 9 99;tenant 9 55;tenant 9 45;tenant 9 51;", "blow 0 1;");
        answers("as far as can be", new int[] {x.closest(1, 0), x.closest(1, 1), x.closest(2, 0), x.closest(2, 1)}, 0, 99, 0, 0);
        Bench.work(x, "blow 2 20;blow 1 1;");
        answers("of alike ones the first, be it smaller", new int[] {x.closest(0, 0), x.closest(0, 1), x.view(0, 2)}, 1, 5, 2);
        Bench.work(x, "blow 3 1;");
        answers("nearer", new int[] {x.closest(0, 0), x.closest(0, 1)}, 3, 1);
        range("closest's what", 0, 1, (v, what) -> v.closest(3, what));
        views("closest", (v, view) -> v.closest(view, 0));
        noSuch("closest(4, 9)", Edge::rich, v -> v.closest(4, 9));

        says(38, "NONE both: there are no BUBBLES.");
        answers("none was blown", new int[] {at(FULL).closest(7, 0), at(FULL).closest(7, 1)}, NONE, NONE);
        BubbleLeases y = after("view 5 5;tenant 9 5;", "blow 0 1;west 6;");
        answers("it burst", new int[] {y.closest(0, 0), y.closest(0, 1)}, NONE, NONE);
        answers("no tenants", new int[] {at("view 5 5;").closest(0, 0), at("view 5 5;").closest(0, 1)}, NONE, NONE);
    }
}
