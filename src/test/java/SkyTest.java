/** Promises 9 to 18 and 26 to 38: what is there, what would be, the best places. */
public final class SkyTest {
    /** Five TENANTS ten apart, three of whose BUBBLES stay: SIZES 5, 6 and 4 at 5, 15 and 25. */
    private static final String ROW = "view 5 1;view 15 1;view 25 1;view 99 60;"
            + "tenant 9 0;tenant 9 10;tenant 9 20;tenant 9 30;tenant 0 40;soap 20;";
    private static final String ROW_WORK = "blow 0 5;blow 1 5;blow 2 6;blow 3 4;blow 4 1;keep 0;breath;west 5;keep 3;";

    public static void main(String[] args) {
        promise9();
        promise10();
        promise11();
        promise12();
        promise13();
        promise14();
        promise15();
        promise16();
        promise17();
        promise18();
        promise26();
        promises27And33();
        promise28();
        promise29();
        promise30();
        promises31And32();
        promise34();
        promise35();
        promise36();
        promise37();
        promise38();
        Bench.end();
    }

    private static BubbleLeases row() {
        BubbleLeases x = Bench.at(ROW);
        Bench.due("the row's work", Bench.work(x, ROW_WORK), 6);
        return x;
    }

    private static void promise9() {
        BubbleLeases x = row();
        Bench.book(x, "0 0;3 5;");
        int[] got = new int[12];
        for (int what = 0; what < 12; what++) {
            got[what] = x.told(what);
        }
        Bench.answers("told", got, 4, 5, 20, 1, 14, 4, 1, 29, 3, 2, 3, 2);
        Bench.wrongArgument(x, "told(12)", () -> x.told(12));
        Bench.wrongArgument(x, "told(-1)", () -> x.told(-1));
    }

    private static void promise10() {
        // Of alike ones the least number has it; who is nearer has it, be his BUBBLE smaller.
        BubbleLeases x = Bench.after("view 10 7;view 12 8;view 50 9;tenant 9 8;tenant 9 12;tenant 9 14;", "blow 2 2;blow 1 2;blow 0 9;");
        int[] dues = {10, 7, 0, 2, 12, 8, 1, 3, 50, 9, -1, 0};
        for (int v = 0; v < 3; v++) {
            for (int what = 0; what < 4; what++) {
                Bench.due("view(" + v + ", " + what + ")", x.view(v, what), dues[4 * v + what]);
            }
        }
        Bench.due("no farther than S", Bench.after("view 10 7;tenant 9 15;", "blow 0 5;").view(0, 2), 0);
        Bench.due("farther than S", Bench.after("view 10 7;tenant 9 15;", "blow 0 4;").view(0, 2), -1);
        Bench.noSuch(x, "view(3, 9)", () -> x.view(3, 9));
        Bench.noSuch(x, "view(-1, 0)", () -> x.view(-1, 0));
        Bench.wrongArgument(x, "view(0, 4)", () -> x.view(0, 4));
        Bench.wrongArgument(x, "view(0, -1)", () -> x.view(0, -1));
    }

    private static void promise11() {
        BubbleLeases x = row();
        int[] dues = {7, 10, 1, 1, 1, 4, 7, 20, 1, 2, 1, 10, 0, 40, 0, 0, 0, 0};
        int[] who = {1, 2, 4};
        for (int i = 0; i < 3; i++) {
            for (int what = 0; what < 6; what++) {
                Bench.due("tenant(" + who[i] + ", " + what + ")", x.tenant(who[i], what), dues[6 * i + what]);
            }
        }
        Bench.noSuch(x, "tenant(5, 9)", () -> x.tenant(5, 9));
        Bench.noSuch(x, "tenant(-1, 0)", () -> x.tenant(-1, 0));
        Bench.wrongArgument(x, "tenant(0, 6)", () -> x.tenant(0, 6));
        Bench.wrongArgument(x, "tenant(4, -1)", () -> x.tenant(4, -1));
    }

    private static void promise12() {
        BubbleLeases x = row();
        int[] due = {6, 15, 1, 39, 2};
        for (int what = 0; what < 5; what++) {
            Bench.due("bubble(2, " + what + ")", x.bubble(2, what), due[what]);
            Bench.due("of none", x.bubble(0, what), -1);
        }
        Bench.law(x, "worth * 10 + tenant + walls + blown + breath + place");
        Bench.due("life now", x.bubble(2, 3), 10 + 2 + 2 + 4 + 1 + 15);
        Bench.noSuch(x, "bubble(5, 9)", () -> x.bubble(5, 9));
        Bench.wrongArgument(x, "bubble(0, 5)", () -> x.bubble(0, 5));
        Bench.wrongArgument(x, "bubble(2, -1)", () -> x.bubble(2, -1));
    }

    private static void promise13() {
        BubbleLeases x = new BubbleLeases();
        Bench.due("of 8, 20, 3", x.would(8, 20, 3, 0, 0, 0, 0, 0), 39);
        Bench.due("its law", Bench.law(x, "size + soap + walls + place + worth + breath + blown + tenant - 999 - 999 - 2"), 1);
        Bench.due("all at their most", x.would(20, 20, 4, 99, 480, 400, 999, 4), 26);
        Bench.due("all at their least", x.would(1, 1, 0, 0, 0, 0, 0, 0), 1);
        int[] least = {1, 1, 0, 0, 0, 0, 0, 0};
        int[] most = {20, 20, 4, 99, 480, 400, 999, 4};
        for (int i = 0; i < 8; i++) {
            int[] a = least.clone();
            a[i]--;
            Bench.wrongArgument(x, "would below by " + i, () -> x.would(a[0], a[1], a[2], a[3], a[4], a[5], a[6], a[7]));
            int[] b = most.clone();
            b[i]++;
            Bench.wrongArgument(x, "would beyond by " + i, () -> x.would(b[0], b[1], b[2], b[3], b[4], b[5], b[6], b[7]));
        }
    }

    private static void promise14() {
        BubbleLeases x = Bench.after(Bench.CORNER, "blow 0 8;blow 1 4;east 20;west 20;blow 2 1;east 20;west 20;");
        // The one at 90 went with the wind; the others touch, and last 3 and 5, then 4 without its wall.
        Bench.due("burst by now", x.told(6), 1);
        Bench.due("ahead(0, 0)", x.ahead(0, 0), 3);
        Bench.due("ahead(0, 1)", x.ahead(0, 1), 14);
        Bench.due("ahead(0, 2)", x.ahead(0, 2), 1);
        Bench.due("ahead(3, 0)", x.ahead(3, 0), 2);
        Bench.due("ahead(3, 1)", x.ahead(3, 1), 9);
        Bench.due("ahead(3, 2)", x.ahead(3, 2), 2);
        Bench.due("ahead(4, 2)", x.ahead(4, 2), 3);
        Bench.due("ahead(99, 0)", x.ahead(99, 0), 0);
        Bench.due("nothing stays changed", x.told(3) * 100 + x.told(4), 3);
        Bench.wrongArgument(x, "ahead(100, 0)", () -> x.ahead(100, 0));
        Bench.wrongArgument(x, "ahead(-1, 0)", () -> x.ahead(-1, 0));
        Bench.wrongArgument(x, "ahead(0, 3)", () -> x.ahead(0, 3));
        Bench.wrongArgument(x, "ahead(0, -1)", () -> x.ahead(0, -1));
        beyondBreath400();
    }

    private static void beyondBreath400() {
        BubbleLeases x = Bench.at("tenant 99 10;");
        Bench.law(x, "404 - breath");
        for (int i = 0; i < 3; i++) {
            Bench.work(x, "again 30[again 30[breath;];];");
        }
        Bench.work(x, "blow 0 1;");
        Bench.due("breath 400", x.told(3), 400);
        Bench.due("life 4", x.bubble(0, 3), 4);
        Bench.due("breaths go by beyond", x.ahead(1, 0), 1);
        Bench.due("and are counted", x.lasts(0), 3);
    }

    private static void promise15() {
        BubbleLeases x = row();
        Bench.due("30 by 1", x.wall(1, 2, 0) * 10 + x.wall(1, 2, 1), 301);
        Bench.due("12 by 1", x.wall(3, 2, 0) * 10 + x.wall(2, 3, 1), 121);
        Bench.due("do not touch", x.wall(1, 3, 0), -1);
        Bench.due("do not touch", x.wall(1, 3, 1), -1);
        Bench.due("has none", x.wall(0, 1, 1), -1);
        Bench.due("are one", x.wall(1, 1, 0), -1);
        BubbleLeases y = Bench.after("tenant 9 10;tenant 9 30;tenant 9 29;", "blow 0 14;blow 1 6;blow 2 14;");
        Bench.due("21 by 2, just touching", y.wall(0, 1, 0), 21);
        Bench.due("21 by 2", y.wall(0, 1, 1), 2);
        Bench.due("flat above", y.wall(0, 2, 0), 0);
        Bench.due("flat below", y.wall(0, 2, 1), 1);
        Bench.noSuch(x, "wall(5, 0, 9)", () -> x.wall(5, 0, 9));
        Bench.noSuch(x, "wall(0, 5, 0)", () -> x.wall(0, 5, 0));
        Bench.noSuch(x, "wall(0, -1, 0)", () -> x.wall(0, -1, 0));
        Bench.wrongArgument(x, "wall(0, 0, 2)", () -> x.wall(0, 0, 2));
        Bench.wrongArgument(x, "wall(0, 0, -1)", () -> x.wall(0, 0, -1));
    }

    private static void promise16() {
        BubbleLeases x = Bench.after(Bench.CORNER, "blow 0 8;blow 1 4;");
        Bench.due("lasts(0)", x.lasts(0), 3);
        Bench.due("lasts(1), its wall gone", x.lasts(1), 4);
        Bench.due("has none", x.lasts(2), -1);
        Bench.law(x, "breath + 2");
        Bench.due("no life is more than 60", x.lasts(0), 60);
        Bench.noSuch(x, "lasts(3)", () -> x.lasts(3));
        Bench.noSuch(x, "lasts(-1)", () -> x.lasts(-1));
        Bench.due("nothing stays changed", x.told(3), 0);
    }

    private static void promise17() {
        BubbleLeases x = Bench.at(Bench.CORNER);
        Bench.answers("pitch", new int[] {x.pitch(5, 0), x.pitch(5, 1), x.pitch(20, 0), x.pitch(20, 1), x.pitch(1, 0)}, 45, 20, 30, 34, 49);
        Bench.answers("of none", new int[] {new BubbleLeases().pitch(3, 0), new BubbleLeases().pitch(3, 1)}, 0, 0);
        Bench.due("worth nothing", Bench.at("view 50 0;").pitch(1, 0), 0);
        Bench.due("at the end", Bench.at("view 99 1;view 0 1;view 98 1;").pitch(1, 0), 98);
        Bench.wrongArgument(x, "pitch(0, 0)", () -> x.pitch(0, 0));
        Bench.wrongArgument(x, "pitch(21, 0)", () -> x.pitch(21, 0));
        Bench.wrongArgument(x, "pitch(1, 2)", () -> x.pitch(1, 2));
        Bench.wrongArgument(x, "pitch(1, -1)", () -> x.pitch(1, -1));
    }

    private static void promise18() {
        BubbleLeases x = Bench.at(Bench.CORNER);
        Bench.answers("street", new int[] {x.street(5, 0), x.street(5, 1), x.street(5, 2), x.street(5, 3), x.street(5, 8), x.street(4, 2)},
                0, 20, 34, 37, 37, 29);
        // The best single place is in the middle, the best two are not.
        BubbleLeases y = Bench.at("view 10 5;view 12 9;view 14 9;view 16 5;");
        Bench.due("one", y.street(1, 1), 18);
        Bench.due("two", y.street(1, 2), 28);
        Bench.due("at both ends", Bench.at("view 0 3;view 99 4;").street(20, 2), 7);
        Bench.due("five of eight", Bench.at("view 0 1;view 10 2;view 20 3;view 30 4;view 40 5;view 50 6;view 60 7;view 70 8;").street(4, 5), 30);
        Bench.wrongArgument(x, "street(0, 1)", () -> x.street(0, 1));
        Bench.wrongArgument(x, "street(21, 1)", () -> x.street(21, 1));
        Bench.wrongArgument(x, "street(1, 9)", () -> x.street(1, 9));
        Bench.wrongArgument(x, "street(1, -1)", () -> x.street(1, -1));
    }

    private static void promise26() {
        BubbleLeases x = Bench.at(Bench.CORNER);
        Bench.answers("nobody", new int[] {x.richest(0), x.richest(1)}, -1, -1);
        Bench.work(x, "blow 1 4;blow 2 5;");
        Bench.answers("richest", new int[] {x.richest(0), x.richest(1)}, 1, 9);
        Bench.answers("of alike ones the first", new int[] {row().richest(0), row().richest(1)}, 1, 1);
        BubbleLeases y = Bench.after("tenant 9 1;tenant 9 2;", "blow 1 1;");
        Bench.answers("of no worth", new int[] {y.richest(0), y.richest(1)}, 1, 0);
        Bench.wrongArgument(x, "richest(2)", () -> x.richest(2));
        Bench.wrongArgument(x, "richest(-1)", () -> x.richest(-1));
    }

    private static void promises27And33() {
        BubbleLeases x = Bench.at("view 10 5;view 20 9;view 50 9;view 95 0;tenant 20 12;tenant 20 55;tenant 20 90;");
        Bench.due("all idle", x.idle(), 15);
        Bench.answers("vacant", new int[] {x.vacant(0), x.vacant(1)}, 1, 9);
        Bench.work(x, "blow 1 5;");
        Bench.due("idle", x.idle(), 11);
        Bench.work(x, "blow 0 8;");
        Bench.due("idle", x.idle(), 8);
        Bench.answers("of no worth", new int[] {x.vacant(0), x.vacant(1)}, 3, 0);
        Bench.work(x, "blow 2 20;");
        Bench.due("none idle", x.idle(), 0);
        Bench.answers("all are seen", new int[] {x.vacant(0), x.vacant(1)}, -1, -1);
        Bench.due("no views", new BubbleLeases().vacant(1), -1);
        Bench.wrongArgument(x, "vacant(2)", () -> x.vacant(2));
        Bench.wrongArgument(x, "vacant(-1)", () -> x.vacant(-1));
    }

    private static void promise28() {
        BubbleLeases x = Bench.after("tenant 9 10;tenant 9 20;tenant 9 40;tenant 9 50;", "blow 0 3;blow 1 3;run 1 24;blow 2 5;breath;keep 2;");
        Bench.due("one stands too far, one is 0", x.under(), 1);
        Bench.work(x, "breath;run 1 23;");
        Bench.due("three", x.under(), 7);
        Bench.due("nobody", new BubbleLeases().under(), 0);
    }

    private static void promise29() {
        BubbleLeases x = Bench.at("view 10 5;view 20 9;tenant 0 12;tenant 9 24;tenant 0 8;");
        Bench.due("without money", x.offer(0, 8), 14);
        Bench.work(x, "blow 1 20;");
        Bench.due("blow 1 7", Bench.work(x, "blow 1 7;"), 0);
        Bench.due("has one", x.offer(1, 1), -1);
        Bench.due("less what another one has", x.offer(0, 8), 5);
        Bench.due("alike: the least number", x.offer(2, 2), 5);
        Bench.due("nothing stays changed", x.told(4), 2);
        Bench.noSuch(x, "offer(3, 0)", () -> x.offer(3, 0));
        Bench.wrongArgument(x, "offer(0, 0)", () -> x.offer(0, 0));
        Bench.wrongArgument(x, "offer(1, 21)", () -> x.offer(1, 21));
    }

    private static void promise30() {
        BubbleLeases x = Bench.after("tenant 9 10;tenant 9 90;tenant 9 99;tenant 9 0;", "blow 0 1;blow 1 1;blow 2 1;");
        Bench.answers("lost", new int[] {x.lost(1, 0), x.lost(9, 0), x.lost(10, 0), x.lost(10, 1), x.lost(11, 1), x.lost(20, 1)}, 4, 4, 6, 0, 1, 1);
        Bench.due("nothing stays changed", x.told(6), 0);
        Bench.wrongArgument(x, "lost(0, 0)", () -> x.lost(0, 0));
        Bench.wrongArgument(x, "lost(21, 0)", () -> x.lost(21, 0));
        Bench.wrongArgument(x, "lost(1, 2)", () -> x.lost(1, 2));
        Bench.wrongArgument(x, "lost(1, -1)", () -> x.lost(1, -1));
    }

    private static void promises31And32() {
        BubbleLeases x = Bench.after("tenant 9 0;tenant 9 40;tenant 9 20;tenant 9 60;tenant 9 80;", "blow 0 10;blow 1 10;blow 2 10;blow 3 10;blow 4 10;");
        Bench.due("a chain of five", x.terrace(0), 31);
        Bench.due("by the far end", x.terrace(4), 31);
        Bench.answers("overlap", new int[] {x.overlap(0, 2), x.overlap(0, 4), x.overlap(4, 0)}, 0, -60, -60);
        BubbleLeases y = row();
        Bench.answers("terrace", new int[] {y.terrace(3), y.terrace(0)}, 14, 0);
        Bench.answers("overlap", new int[] {y.overlap(1, 2), y.overlap(2, 1), y.overlap(1, 3)}, 1, 1, -11);
        Bench.answers("none, or one", new int[] {y.overlap(0, 1), y.overlap(1, 4), y.overlap(1, 1)},
                Integer.MIN_VALUE, Integer.MIN_VALUE, Integer.MIN_VALUE);
        Bench.due("alone", Bench.after("tenant 9 0;tenant 9 9;", "blow 0 4;blow 1 4;").terrace(1), 2);
        Bench.noSuch(x, "terrace(5)", () -> x.terrace(5));
        Bench.noSuch(x, "terrace(-1)", () -> x.terrace(-1));
        Bench.noSuch(x, "overlap(5, 0)", () -> x.overlap(5, 0));
        Bench.noSuch(x, "overlap(0, 5)", () -> x.overlap(0, 5));
    }

    private static void promise34() {
        BubbleLeases x = Bench.at("view 10 5;view 30 5;view 31 5;tenant 0 10;");
        Bench.answers("needs", new int[] {x.needs(0, 0), x.needs(0, 1), x.needs(0, 2)}, 1, 20, -1);
        Bench.work(x, "run 0 12;");
        Bench.answers("where he stands", new int[] {x.needs(0, 0), x.needs(0, 1), x.needs(0, 2)}, 2, 18, 19);
        Bench.noSuch(x, "needs(1, 0)", () -> x.needs(1, 0));
        Bench.noSuch(x, "needs(0, 3)", () -> x.needs(0, 3));
        Bench.noSuch(x, "needs(0, -1)", () -> x.needs(0, -1));
    }

    private static void promise35() {
        BubbleLeases x = Bench.after("tenant 9 10;tenant 5 20;tenant 0 30;tenant 9 40;", "blow 0 1;blow 3 1;");
        Bench.answers("buyers", new int[] {x.buyers(0, 0), x.buyers(0, 5), x.buyers(0, 6), x.buyers(1, 0)}, 6, 2, 0, 0);
        Bench.noSuch(x, "buyers(4, 100)", () -> x.buyers(4, 100));
        Bench.wrongArgument(x, "buyers(0, 100)", () -> x.buyers(0, 100));
        Bench.wrongArgument(x, "buyers(1, -1)", () -> x.buyers(1, -1));
    }

    private static void promise36() {
        int[] due = {0, 4, 9, 14, 19, 20, 20};
        for (int money = 0; money < due.length; money++) {
            BubbleLeases x = Bench.at("tenant " + money + " 3;");
            Bench.due("affords by " + money, x.affords(0), due[money]);
        }
        BubbleLeases x = Bench.after("tenant 9 3;", "blow 0 1;");
        Bench.due("has one", x.affords(0), -1);
        Bench.noSuch(x, "affords(1)", () -> x.affords(1));
        Bench.noSuch(x, "affords(-1)", () -> x.affords(-1));
    }

    private static void promise37() {
        BubbleLeases x = Bench.after(Bench.CORNER, "blow 0 8;");
        Bench.answers("front", new int[] {x.front(0, 99, 0), x.front(0, 99, 1), x.front(10, 20, 0), x.front(11, 20, 0), x.front(10, 19, 0),
            x.front(50, 50, 1), x.front(50, 49, 1)}, 14, 23, 14, 9, 5, 20, 0);
        Bench.wrongArgument(x, "front(-1, 0, 0)", () -> x.front(-1, 0, 0));
        Bench.wrongArgument(x, "front(100, 0, 0)", () -> x.front(100, 0, 0));
        Bench.wrongArgument(x, "front(0, 100, 0)", () -> x.front(0, 100, 0));
        Bench.wrongArgument(x, "front(0, -1, 0)", () -> x.front(0, -1, 0));
        Bench.wrongArgument(x, "front(0, 0, 2)", () -> x.front(0, 0, 2));
        Bench.wrongArgument(x, "front(0, 0, -1)", () -> x.front(0, 0, -1));
    }

    private static void promise38() {
        BubbleLeases x = Bench.at("view 50 5;view 0 1;tenant 9 99;tenant 9 40;tenant 9 60;");
        Bench.answers("no bubbles", new int[] {x.closest(0, 0), x.closest(0, 1)}, -1, -1);
        Bench.work(x, "blow 0 1;");
        Bench.answers("far away", new int[] {x.closest(1, 0), x.closest(1, 1)}, 0, 99);
        Bench.work(x, "blow 2 20;blow 1 1;");
        Bench.answers("of alike ones the first", new int[] {x.closest(0, 0), x.closest(0, 1)}, 1, 10);
        Bench.noSuch(x, "closest(2, 9)", () -> x.closest(2, 9));
        Bench.wrongArgument(x, "closest(0, 2)", () -> x.closest(0, 2));
        Bench.wrongArgument(x, "closest(0, -1)", () -> x.closest(0, -1));
    }
}
