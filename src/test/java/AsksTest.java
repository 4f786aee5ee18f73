/** Promises 9 to 43: what is asked, on coasts small enough to answer by hand; images, status, count. */
public final class AsksTest {
    private static final int MIN = Integer.MIN_VALUE;
    private static final int MAX = Integer.MAX_VALUE;

    private AsksTest() {
    }

    public static void main(String[] args) {
        promise9();
        promise10();
        promise11();
        promise12();
        promise13();
        promise14();
        promise15();
        promise16();
        promise17();
        promise18();
        promise19();
        promise20();
        promise21();
        promise22();
        promise23();
        promise24And25();
        promise26();
        promise27();
        promise28();
        promise29();
        promise30();
        promise31();
        promise32();
        promise33();
        promise34();
        promise35();
        promise36();
        promise37();
        promise38();
        promise39();
        promise40And41();
        promise42();
        promise43();
        Checks.end();
    }

    private static void promise9() {
        WickNights x = Checks.on(Checks.COAST);
        int[] first = {2, 4, 1, 2, 0, 0, 13, 4, 0, 0};
        for (int what = 0; what < first.length; what++) {
            Checks.due("told(" + what + ")", x.told(what), first[what]);
        }
        Checks.work(x, "month;sell 0;sell 0;water 1 2;");
        Checks.book(x, "1 1;0 2;");
        int[] then = {2, 4, 1, 2, 1, 20, 14 - 6 + 3 - 2, 3 + 4, 2, 1};
        for (int what = 0; what < then.length; what++) {
            Checks.due("then told(" + what + ")", x.told(what), then[what]);
        }
        Checks.book(x, "?");
        Checks.due("a fault changes nothing", x.told(8), 2);
        Checks.work(x, "?");
        Checks.due("a fault changes nothing", x.told(9), 1);
        Checks.illegal("told(-1)", () -> x.told(-1));
        Checks.illegal("told(10)", () -> x.told(10));
        Checks.illegal("told(MIN)", () -> x.told(MIN));
        x.undo();
        Checks.due("behind undo", x.told(9), 0);
    }

    private static void promise10() {
        WickNights x = Checks.on(Checks.COAST);
        int[] first = {0, 10, 4, 6, 0, 15};
        for (int what = 0; what < first.length; what++) {
            Checks.due("place(0, " + what + ")", x.place(0, what), first[what]);
        }
        Checks.work(x, "month;sell 1;");
        // 2 of 10 and 1 of 4 leak, 6 come; 3 watered and 2 good hours are sold.
        int[] then = {0, 14 - 2, 0, 6, 3, 10};
        for (int what = 0; what < then.length; what++) {
            Checks.due("then place(0, " + what + ")", x.place(0, what), then[what]);
        }
        Checks.missing("place(2, 0)", () -> x.place(2, 0));
        Checks.missing("place(-1, 0)", () -> x.place(-1, 0));
        Checks.missing("place(MIN, 9)", () -> x.place(MIN, 9));
        Checks.missing("place(MAX, 0)", () -> x.place(MAX, 0));
        Checks.illegal("place(0, 6)", () -> x.place(0, 6));
        Checks.illegal("place(0, -1)", () -> x.place(0, -1));
    }

    private static void promise11() {
        WickNights x = Checks.on(Checks.COAST);
        int[] first = {1, 4, 1, 30, 1, 0};
        for (int what = 0; what < first.length; what++) {
            Checks.due("want(3, " + what + ")", x.want(3, what), first[what]);
        }
        Checks.due("C of 1", x.want(1, 2), 0);
        Checks.work(x, "sell 0;");
        Checks.due("sold", x.want(0, 4), 0);
        Checks.due("once", x.want(0, 5), 1);
        Checks.work(x, "month;sell 0;month;");
        Checks.due("open", x.want(0, 4), 1);
        Checks.due("twice", x.want(0, 5), 2);
        Checks.missing("want(4, 0)", () -> x.want(4, 0));
        Checks.missing("want(-1, 9)", () -> x.want(-1, 9));
        Checks.illegal("want(0, 6)", () -> x.want(0, 6));
        Checks.illegal("want(0, -1)", () -> x.want(0, -1));
    }

    private static void promise12() {
        WickNights x = Checks.on(Checks.COAST);
        int[] first = {1, 20, 2, 0, 0};
        for (int what = 0; what < first.length; what++) {
            Checks.due("mine(0, " + what + ")", x.mine(0, what), first[what]);
        }
        Checks.work(x, "month;");
        Checks.due("month 1", x.mine(0, 3), 0);
        Checks.work(x, "month;dig 0 1;");
        Checks.due("month 2", x.mine(0, 3), 1);
        Checks.due("left", x.mine(0, 1), 17);
        Checks.due("dug", x.mine(0, 4), 3);
        Checks.work(x, "again 9[month;];dig 0 9;");
        Checks.due("month 11, empty", x.mine(0, 3), 1);
        Checks.due("dug", x.mine(0, 4), 20);
        Checks.work(x, "month;");
        Checks.due("month 0 of the next year", x.mine(0, 3), 0);
        Checks.missing("mine(1, 0)", () -> x.mine(1, 0));
        Checks.missing("mine(-1, 9)", () -> x.mine(-1, 9));
        Checks.illegal("mine(0, 5)", () -> x.mine(0, 5));
        Checks.illegal("mine(0, -1)", () -> x.mine(0, -1));
    }

    private static void promise13() {
        WickNights x = Checks.on("place 40 0 0 0;place 0 0 0 0;place 13 0 0 0;place 0 0 0 0;");
        Checks.due("40 miles", x.arrives(0, 1, 999, 1), 0);
        Checks.due("13 miles", x.arrives(1, 2, 100, 0), 68);
        Checks.due("27 miles", x.arrives(0, 2, 999, 1), 999 - 999 * 27 / 40);
        Checks.due("0 miles", x.arrives(1, 3, 7, 1), 7);
        Checks.due("none", x.arrives(1, 2, 0, 1), 0);
        Checks.law(x, 0, "hours/2+good");
        Checks.due("good", x.arrives(0, 1, 10, 1), 6);
        Checks.due("watered", x.arrives(0, 1, 10, 0), 5);
        Checks.due("none of none", x.arrives(0, 1, 0, 1), 0);
        Checks.missing("arrives(4, 0, 1, 1)", () -> x.arrives(4, 0, 1, 1));
        Checks.missing("arrives(0, 4, -1, 1)", () -> x.arrives(0, 4, -1, 1));
        Checks.missing("arrives(-1, -1, 1, 1)", () -> x.arrives(-1, -1, 1, 1));
        Checks.illegal("arrives(1, 1, 1, 1)", () -> x.arrives(1, 1, 1, 1));
        Checks.illegal("arrives(0, 1, -1, 1)", () -> x.arrives(0, 1, -1, 1));
        Checks.illegal("arrives(0, 1, 1000, 1)", () -> x.arrives(0, 1, 1000, 1));
        Checks.illegal("arrives(0, 1, 1, 2)", () -> x.arrives(0, 1, 1, 2));
        Checks.illegal("arrives(0, 1, 1, -1)", () -> x.arrives(0, 1, 1, -1));
    }

    private static void promise14() {
        WickNights x = Checks.on(Checks.COAST);
        Checks.due("not open", x.digs(0, 2), 6);
        Checks.due("no shafts", x.digs(0, 0), 0);
        Checks.due("what is left", x.digs(0, 9), 20);
        Checks.law(x, 1, "5");
        Checks.due("by a law", x.digs(0, 1), 5);
        Checks.due("no shafts, whatever it tells", x.digs(0, 0), 0);
        Checks.due("nothing is changed", x.mine(0, 1), 20);
        Checks.missing("digs(1, 10)", () -> x.digs(1, 10));
        Checks.missing("digs(-1, 1)", () -> x.digs(-1, 1));
        Checks.illegal("digs(0, 10)", () -> x.digs(0, 10));
        Checks.illegal("digs(0, -1)", () -> x.digs(0, -1));
    }

    private static void promise15() {
        WickNights x = Checks.on("place 0 4 3 0;want 0 4 1 1;want 0 5 1 1;want 0 7 0 1;want 0 8 0 1;");
        Checks.due("4 good", x.can(0), true);
        Checks.due("5 good", x.can(1), false);
        Checks.due("7 of both", x.can(2), true);
        Checks.due("8 of both", x.can(3), false);
        Checks.work(x, "sell 0;");
        Checks.due("not open", x.can(0), false);
        Checks.due("3 left", x.can(2), false);
        Checks.missing("can(4)", () -> x.can(4));
        Checks.missing("can(-1)", () -> x.can(-1));
    }

    private static void promise16() {
        WickNights x = Checks.on(Checks.COAST);
        Checks.due("worth", x.sales(0), 32);
        Checks.due("which", x.sales(1), 5);
        Checks.work(x, "sell 0;");
        // 4 good and 4 watered hours for 5 of worth 9 or 4 of worth 12.
        Checks.due("worth", x.sales(0), 12);
        Checks.due("which", x.sales(1), 4);
        WickNights alike = Checks.on("place 0 4 0 0;want 0 2 0 5;want 0 2 1 5;want 0 2 0 5;want 0 1 0 0;");
        Checks.due("worth of alike ones", alike.sales(0), 10);
        Checks.due("the least bits", alike.sales(1), 3);
        WickNights least = Checks.on("place 0 4 0 0;want 0 3 0 5;want 0 2 0 2;want 0 2 0 3;");
        Checks.due("alike", least.sales(0), 5);
        Checks.due("1, not 6", least.sales(1), 1);
        WickNights good = Checks.on("place 0 3 9 0;place 1 0 5 0;want 0 4 1 9;want 0 3 1 2;want 0 9 0 7;"
            + "want 1 5 0 1;want 1 1 1 50;");
        Checks.due("good ones alone", good.sales(0), 10);
        Checks.due("good ones alone", good.sales(1), 14);
        WickNights mixed = Checks.on("place 0 5 2 0;want 0 4 1 9;want 0 4 0 8;");
        Checks.due("not both", mixed.sales(0), 9);
        Checks.due("no coast", new WickNights().sales(1), 0);
        Checks.illegal("sales(2)", () -> x.sales(2));
        Checks.illegal("sales(-1)", () -> x.sales(-1));
    }

    private static void promise17() {
        WickNights x = Checks.on(Checks.COAST);
        Checks.due("more(0, 0)", x.more(0, 0), 32);
        Checks.due("more(0, 1)", x.more(0, 1), 41);
        Checks.due("more(1, 1)", x.more(1, 1), 62);
        Checks.due("more(0, 99)", x.more(0, 99), 41);
        Checks.due("nothing is changed", x.place(0, 1), 10);
        Checks.missing("more(2, -1)", () -> x.more(2, -1));
        Checks.missing("more(-1, 1)", () -> x.more(-1, 1));
        Checks.illegal("more(0, -1)", () -> x.more(0, -1));
        Checks.illegal("more(0, 100)", () -> x.more(0, 100));
    }

    private static void promise18() {
        WickNights x = Checks.on(Checks.COAST);
        Checks.due("hours 0 to 1", x.brings(0, 1, 0), 1);
        Checks.due("worth 0 to 1", x.brings(0, 1, 1), 62);
        Checks.due("hours 1 to 0", x.brings(1, 0, 0), 1);
        Checks.due("worth 1 to 0", x.brings(1, 0, 1), 41);
        Checks.law(x, 0, "hours/4");
        Checks.due("four for one", x.brings(0, 1, 0), 4);
        Checks.due("worth", x.brings(0, 1, 1), 62);
        Checks.law(x, 0, "hours*good/2");
        Checks.due("good ones are carried", x.brings(0, 1, 0), 2);
        Checks.law(x, 0, "0");
        Checks.due("nothing arrives", x.brings(0, 1, 0), 0);
        Checks.due("worth", x.brings(0, 1, 1), 32);
        Checks.due("nothing is changed", x.place(0, 1), 10);
        WickNights third = Checks.on("place 0 9 0 0;place 0 0 0 0;place 0 5 0 0;want 1 9 1 9;want 2 5 0 3;");
        Checks.due("all of them", third.brings(0, 1, 0), 9);
        Checks.due("and a third place's", third.brings(0, 1, 1), 12);
        Checks.missing("brings(2, 2, 9)", () -> x.brings(2, 2, 9));
        Checks.missing("brings(0, 2, 0)", () -> x.brings(0, 2, 0));
        Checks.illegal("brings(1, 1, 0)", () -> x.brings(1, 1, 0));
        Checks.illegal("brings(0, 1, 2)", () -> x.brings(0, 1, 2));
        Checks.illegal("brings(0, 1, -1)", () -> x.brings(0, 1, -1));
    }

    private static void promise19() {
        WickNights x = Checks.on(Checks.COAST);
        Checks.due("price(0)", x.price(0), 10);
        Checks.due("price(1)", x.price(1), 31);
        Checks.work(x, "sell 0;");
        Checks.due("9 hours of 8", x.price(0), 10);
        Checks.work(x, "sell 1;");
        Checks.due("4 hours of 3", x.price(0), 13);
        WickNights edge = Checks.on("place 0 0 0 0;place 0 3 3 0;want 0 1 0 99;want 1 6 1 99;");
        Checks.due("100", edge.price(0), 100);
        Checks.due("0", edge.price(1), 0);
        Checks.missing("price(2)", () -> x.price(2));
        Checks.missing("price(-1)", () -> x.price(-1));
    }

    private static void promise20() {
        WickNights x = Checks.on(Checks.COAST);
        Checks.due("corner(0, 0)", x.corner(0, 0), 0);
        Checks.due("corner(0, 10)", x.corner(0, 10), 0);
        Checks.due("corner(0, 11)", x.corner(0, 11), 5);
        Checks.due("corner(0, 13)", x.corner(0, 13), 5);
        Checks.due("corner(0, 14)", x.corner(0, 14), 9);
        Checks.due("corner(0, 21)", x.corner(0, 21), 9);
        Checks.due("corner(0, 22)", x.corner(0, 22), -1);
        Checks.due("corner(1, 100)", x.corner(1, 100), -1);
        WickNights all = Checks.on("place 0 7 0 0;want 0 1 0 99;");
        Checks.due("all are taken", all.corner(0, 100), 7);
        Checks.due("nothing is changed", all.place(0, 1), 7);
        Checks.missing("corner(2, 101)", () -> x.corner(2, 101));
        Checks.illegal("corner(0, -1)", () -> x.corner(0, -1));
        Checks.illegal("corner(0, 101)", () -> x.corner(0, 101));
    }

    private static void promise21() {
        WickNights x = new WickNights();
        Checks.due("worth 2", x.option(10, 4, 2, 8, 10, 1, 0), 2);
        Checks.due("by 1", x.option(10, 4, 2, 8, 10, 1, 1), 1);
        Checks.due("used at once", x.option(20, 0, 5, 8, 10, 2, 0), 10);
        Checks.due("3 of 16 of 1", x.option(10, 1, 0, 3, 10, 1, 0), 3);
        Checks.due("3 of 16 of 1", x.option(10, 1, 0, 3, 10, 1, 1), 16);
        // Only six times up it is above 5.
        Checks.due("six hours", x.option(0, 1, 99, 1, 5, 6, 0), 1);
        Checks.due("six hours", x.option(0, 1, 99, 1, 5, 6, 1), 1L << 24);
        Checks.due("no worth", x.option(5, 0, 0, 0, 9, 0, 0), 0);
        Checks.due("0 by 1", x.option(5, 0, 0, 0, 9, 6, 1), 1);
        Checks.due("the most", x.option(999, 99, 99, 16, 0, 6, 0), 999 + 594);
        Checks.due("the most, by 1", x.option(999, 99, 99, 16, 0, 6, 1), 1);
        // Down from 1 by 5 it is 0, and up by 9 then 9: half of 7, and half of 2.
        Checks.due("0 at least", x.option(1, 9, 5, 8, 5, 2, 0), 9);
        Checks.due("0 at least", x.option(1, 9, 5, 8, 5, 2, 1), 2);
        wrongOptions(x);
    }

    private static void wrongOptions(WickNights x) {
        int[][] wrong = {
            {-1, 0, 0, 0, 0, 0, 0}, {1000, 0, 0, 0, 0, 0, 0}, {0, -1, 0, 0, 0, 0, 0}, {0, 100, 0, 0, 0, 0, 0},
            {0, 0, -1, 0, 0, 0, 0}, {0, 0, 100, 0, 0, 0, 0}, {0, 0, 0, -1, 0, 0, 0}, {0, 0, 0, 17, 0, 0, 0},
            {0, 0, 0, 0, -1, 0, 0}, {0, 0, 0, 0, 1000, 0, 0}, {0, 0, 0, 0, 0, -1, 0}, {0, 0, 0, 0, 0, 7, 0},
            {0, 0, 0, 0, 0, 0, -1}, {0, 0, 0, 0, 0, 0, 2}};
        for (int i = 0; i < wrong.length; i++) {
            int[] w = wrong[i];
            Checks.illegal("option " + i, () -> x.option(w[0], w[1], w[2], w[3], w[4], w[5], w[6]));
            Checks.illegal("late " + i, () -> x.late(w[0], w[1], w[2], w[3], w[4], w[5], w[6]));
            if (w[6] == 0) {
                Checks.illegal("now " + i, () -> x.now(w[0], w[1], w[2], w[3], w[4], w[5]));
            }
        }
    }

    private static void promise22() {
        WickNights x = new WickNights();
        Checks.due("worth 2", x.late(10, 4, 2, 8, 10, 1, 0), 2);
        Checks.due("less than at once", x.late(20, 0, 5, 8, 10, 2, 0), 5);
        Checks.due("1 of 8", x.late(10, 1, 1, 4, 10, 2, 0), 1);
        Checks.due("1 of 8", x.late(10, 1, 1, 4, 10, 2, 1), 8);
        Checks.due("now is the last hour", x.late(12, 1, 1, 4, 10, 0, 0), 2);
        Checks.due("no worth", x.late(1, 1, 1, 4, 10, 3, 0), 0);
        Checks.due("no worth, by 1", x.late(1, 1, 1, 4, 10, 3, 1), 1);
        // 14, 0, 4 and 0, each by one of four.
        Checks.due("0 at least", x.late(1, 9, 5, 8, 5, 2, 0), 9);
        Checks.due("0 at least", x.late(1, 9, 5, 8, 5, 2, 1), 2);
    }

    private static void promise23() {
        WickNights x = new WickNights();
        Checks.due("wait", x.now(10, 4, 2, 8, 10, 1), false);
        Checks.due("now", x.now(20, 0, 5, 8, 10, 2), true);
        Checks.due("nothing to bring", x.now(9, 1, 1, 8, 9, 0), false);
        Checks.due("no hour left", x.now(10, 9, 0, 16, 9, 0), true);
        Checks.due("alike", x.now(30, 2, 2, 8, 10, 4), true);
        Checks.due("better later", x.now(30, 3, 2, 8, 10, 4), false);
        Checks.due("below", x.now(8, 0, 0, 8, 9, 3), false);
    }

    private static void promise24And25() {
        WickNights x = Checks.on(Checks.COAST);
        Checks.due("nights(0, 10)", x.nights(0, 10), 2);
        Checks.due("night(0, 10)", x.night(0, 10), 0);
        Checks.due("night(1, 10)", x.night(1, 10), 1);
        Checks.due("night(2, 10)", x.night(2, 10), 0);
        Checks.due("nights(0, 5)", x.nights(0, 5), -1);
        Checks.due("night(1, 5)", x.night(1, 5), -1);
        Checks.due("nights(0, 24)", x.nights(0, 24), 1);
        Checks.work(x, "sell 0;");
        Checks.due("all wants, open or not", x.nights(0, 10), 2);
        WickNights none = Checks.on("place 0 0 0 0;");
        Checks.due("no wants", none.nights(0, 1), 0);
        // The first three fill one night, the others the second.
        WickNights tight = Checks.on("place 0 0 0 0;want 0 3 0 1;want 0 3 0 1;want 0 4 0 1;want 0 3 0 1;"
            + "want 0 4 0 1;want 0 3 0 1;");
        Checks.due("two nights of ten", tight.nights(0, 10), 2);
        int[] on = {0, 0, 0, 1, 1, 1};
        for (int want = 0; want < on.length; want++) {
            Checks.due("night of " + want, tight.night(want, 10), on[want]);
        }
        // 4, 4 and 2 go on the first night, 6 and 4 on the second.
        WickNights pairs = Checks.on("place 0 0 0 0;want 0 4 0 1;want 0 4 0 1;want 0 6 0 1;want 0 2 0 1;want 0 4 0 1;");
        Checks.due("two nights of ten", pairs.nights(0, 10), 2);
        int[] then = {0, 0, 1, 0, 1};
        for (int want = 0; want < then.length; want++) {
            Checks.due("night of " + want, pairs.night(want, 10), then[want]);
        }
        // 4 could be with 3, but then a third night would be needed: 6 goes with 4 alone, 7 with 3.
        WickNights apart = Checks.on("place 0 0 0 0;want 0 3 0 1;want 0 4 0 1;want 0 6 0 1;want 0 7 0 1;");
        Checks.due("two nights of ten", apart.nights(0, 10), 2);
        Checks.due("3", apart.night(0, 10), 0);
        Checks.due("4", apart.night(1, 10), 1);
        Checks.due("6", apart.night(2, 10), 1);
        Checks.due("7", apart.night(3, 10), 0);
        WickNights twelve = Checks.on("place 0 0 0 0;" + Checks.times(12, "want 0 12 0 1;"));
        Checks.due("twelve nights", twelve.nights(0, 23), 12);
        Checks.due("the last", twelve.night(11, 23), 11);
        Checks.due("six nights", twelve.nights(0, 24), 6);
        Checks.due("the last", twelve.night(11, 24), 5);
        Checks.missing("nights(2, 0)", () -> x.nights(2, 0));
        Checks.missing("night(4, 0)", () -> x.night(4, 0));
        Checks.missing("night(-1, 1)", () -> x.night(-1, 1));
        Checks.illegal("nights(0, 0)", () -> x.nights(0, 0));
        Checks.illegal("nights(0, 25)", () -> x.nights(0, 25));
        Checks.illegal("night(0, 0)", () -> x.night(0, 0));
        Checks.illegal("night(0, 25)", () -> x.night(0, 25));
    }

    private static void promise26() {
        WickNights x = new WickNights();
        int[][] due = {{1, 40, 0, 0}, {2, 1, 1, 1}, {3, 40, 2, 1}, {8, 8, 3, 4}, {8, 1, 7, 1}, {5, 2, 3, 1},
            {40, 40, 6, 8}, {40, 1, 39, 1}, {9, 3, 4, 2}, {12, 4, 4, 4}};
        for (int[] row : due) {
            Checks.due("looks(" + row[0] + ", " + row[1] + ", 0)", x.looks(row[0], row[1], 0), row[2]);
            Checks.due("looks(" + row[0] + ", " + row[1] + ", 1)", x.looks(row[0], row[1], 1), row[3]);
        }
        Checks.illegal("looks(0, 1, 0)", () -> x.looks(0, 1, 0));
        Checks.illegal("looks(41, 1, 0)", () -> x.looks(41, 1, 0));
        Checks.illegal("looks(1, 0, 0)", () -> x.looks(1, 0, 0));
        Checks.illegal("looks(1, 41, 0)", () -> x.looks(1, 41, 0));
        Checks.illegal("looks(1, 1, 2)", () -> x.looks(1, 1, 2));
        Checks.illegal("looks(1, 1, -1)", () -> x.looks(1, 1, -1));
    }

    private static void promise27() {
        // In the row by X: 2, 0, 1, 3 (0 and 1 by number).
        WickNights x = Checks.on("place 5 0 0 0;place 5 0 0 0;place 0 0 0 0;place 9 0 0 0;");
        Checks.due("no book", x.leaky(0), 16);
        Checks.due("the first", x.leaky(1), 0);
        Checks.due("in all", x.leaky(2), 0);
        Checks.due("in none", x.leaky(3), 0);
        Checks.book(x, "0 2;");
        // 0 alone of 2, 0, 1, or both beside it; 3 is free.
        Checks.due("sets", x.leaky(0), 4);
        Checks.due("the first", x.leaky(1), 1);
        Checks.due("in all", x.leaky(2), 0);
        Checks.due("in none", x.leaky(3), 0);
        Checks.book(x, "0 2;2 1;");
        Checks.due("sets", x.leaky(0), 2);
        Checks.due("in all", x.leaky(2), 1);
        Checks.due("in none", x.leaky(3), 6);
        Checks.book(x, "3 3;");
        Checks.due("1 and 3", x.leaky(2), 10);
        Checks.due("sets", x.leaky(0), 4);
        Checks.book(x, "3 4;");
        int[] none = {0, -1, 0, 0};
        for (int what = 0; what < none.length; what++) {
            Checks.due("no sets, leaky(" + what + ")", x.leaky(what), none[what]);
        }
        Checks.due("no places", new WickNights().leaky(0), 1);
        Checks.illegal("leaky(4)", () -> x.leaky(4));
        Checks.illegal("leaky(-1)", () -> x.leaky(-1));
    }

    private static void promise28() {
        WickNights x = Checks.on("place 5 0 0 0;place 5 0 0 0;place 0 0 0 0;place 9 0 0 0;");
        int[][] due = {{0, 1, 2}, {0, 2, 1}, {0, 4, 1}, {0, 8, 0}, {0, 15, 4}, {1, 15, 4}, {2, 15, 3}, {3, 15, 3},
            {1, 9, 2}, {2, 1, 1}, {2, 2, 0}, {3, 2, 1}, {3, 0, 0}};
        for (int[] row : due) {
            Checks.due("misses(" + row[0] + ", " + row[1] + ")", x.misses(row[0], row[1]), row[2]);
        }
        Checks.missing("misses(4, 99)", () -> x.misses(4, 99));
        Checks.missing("misses(-1, 0)", () -> x.misses(-1, 0));
        Checks.illegal("misses(0, 16)", () -> x.misses(0, 16));
        Checks.illegal("misses(0, -1)", () -> x.misses(0, -1));
        Checks.illegal("misses(0, MIN)", () -> x.misses(0, MIN));
        WickNights one = Checks.on("place 0 0 0 0;");
        Checks.due("alone", one.misses(0, 1), 2);
    }

    private static void promise29() {
        WickNights x = Checks.on(Checks.COAST);
        Checks.due("open in the third month", x.seam(0, 3, 2, 0), 4);
        Checks.due("002", x.seam(0, 3, 2, 1), 2);
        Checks.due("not open", x.seam(0, 2, 9, 0), 0);
        Checks.due("not open", x.seam(0, 2, 9, 1), 0);
        // 20 hours by 7 shafts: 13; 6 bring 18: 12. First 0 in the third month, if the fourth can have all.
        Checks.due("four months", x.seam(0, 4, 9, 0), 13);
        Checks.due("0007", x.seam(0, 4, 9, 1), 7);
        Checks.due("by 4", x.seam(0, 4, 4, 1), 34);
        Checks.due("by 0", x.seam(0, 4, 0, 0), 0);
        WickNights law = Checks.on("place 0 0 0 0;mine 0 400 0;");
        Checks.law(law, 1, "least[shafts*(month+1),2+shafts]");
        // Month 0: s - s; month 1 on: 2 + s - s by two shafts.
        Checks.due("by the month", law.seam(0, 3, 9, 0), 4);
        Checks.due("the first", law.seam(0, 3, 9, 1), 21);
        Checks.work(law, "again 11[month;];");
        // Month 11: 1 shaft brings 3; then month 0 of the next year.
        Checks.due("over the year", law.seam(0, 2, 9, 0), 2);
        Checks.due("over the year", law.seam(0, 2, 9, 1), 10);
        Checks.due("nothing is changed", law.mine(0, 1), 400);
        Checks.missing("seam(1, 9, 9, 9)", () -> x.seam(1, 9, 9, 9));
        Checks.illegal("seam(0, 0, 1, 0)", () -> x.seam(0, 0, 1, 0));
        Checks.illegal("seam(0, 5, 1, 0)", () -> x.seam(0, 5, 1, 0));
        Checks.illegal("seam(0, 1, -1, 0)", () -> x.seam(0, 1, -1, 0));
        Checks.illegal("seam(0, 1, 10, 0)", () -> x.seam(0, 1, 10, 0));
        Checks.illegal("seam(0, 1, 1, 2)", () -> x.seam(0, 1, 1, 2));
        Checks.illegal("seam(0, 1, 1, -1)", () -> x.seam(0, 1, 1, -1));
    }

    private static void promise30() {
        WickNights x = Checks.on(Checks.COAST);
        Checks.due("rests", x.sellers(1, 3, 0), 3);
        Checks.due("the first", x.sellers(1, 3, 1), 0);
        Checks.due("what he gets", x.sellers(1, 3, 2), 0);
        Checks.due("one price", x.sellers(0, 0, 0), 1);
        // No one wants what costs 1 or more: all prices are alike.
        WickNights cheap = Checks.on("place 0 0 0 0;want 0 4 0 0;place 0 0 0 0;want 1 1 0 9;");
        Checks.due("all rest", cheap.sellers(0, 20, 0), 441);
        // By one hour half, cut, is none: the cheaper has all of it, and against 0 nobody gets any.
        Checks.due("one hour", cheap.sellers(1, 1, 0), 4);
        // Against 1 neither gets any by 1 nor by 0; against 2 he gets 1 by 1.
        Checks.due("one hour, n 2", cheap.sellers(1, 2, 0), oneHourRests(2));
        Checks.due("the first", cheap.sellers(1, 2, 1), 0);
        Checks.missing("sellers(2, 21, 3)", () -> x.sellers(2, 21, 3));
        Checks.illegal("sellers(0, -1, 0)", () -> x.sellers(0, -1, 0));
        Checks.illegal("sellers(0, 21, 0)", () -> x.sellers(0, 21, 0));
        Checks.illegal("sellers(0, 1, 3)", () -> x.sellers(0, 1, 3));
        Checks.illegal("sellers(0, 1, -1)", () -> x.sellers(0, 1, -1));
    }

    /** For one want of one hour worth 9: own below other gets own, else nothing. */
    private static int oneHourRests(int n) {
        int rests = 0;
        for (int one = 0; one <= n; one++) {
            for (int other = 0; other <= n; other++) {
                int best = Math.max(0, other - 1);
                int otherBest = Math.max(0, one - 1);
                int gets = one < other ? one : 0;
                int otherGets = other < one ? other : 0;
                rests += gets == best && otherGets == otherBest ? 1 : 0;
            }
        }
        return rests;
    }

    private static void promise31() {
        WickNights x = Checks.on(Checks.COAST);
        Checks.due("cheaper", x.gets(1, 2, 3), 8);
        Checks.due("alike", x.gets(1, 3, 3), 6);
        Checks.due("dearer", x.gets(1, 3, 2), 0);
        Checks.due("worth as much", x.gets(1, 30, 99), 120);
        Checks.due("worth less", x.gets(1, 31, 40), 0);
        Checks.due("two of three wants", x.gets(0, 10, 10), 50);
        Checks.due("half of five is two", x.gets(0, 9, 9), 9 * (3 + 2 + 2));
        Checks.due("for nothing", x.gets(0, 0, 99), 0);
        Checks.work(x, "sell 0;");
        Checks.due("open ones", x.gets(0, 10, 11), 40);
        Checks.missing("gets(2, 100, 100)", () -> x.gets(2, 100, 100));
        Checks.illegal("gets(0, 100, 0)", () -> x.gets(0, 100, 0));
        Checks.illegal("gets(0, -1, 0)", () -> x.gets(0, -1, 0));
        Checks.illegal("gets(0, 0, 100)", () -> x.gets(0, 0, 100));
        Checks.illegal("gets(0, 0, -1)", () -> x.gets(0, 0, -1));
    }

    private static void promise32() {
        WickNights x = Checks.on(Checks.COAST);
        int[] first = {0, 1, 2, 0, 1, 0, 2, 1, 0, 0, 3};
        for (int day = 0; day < first.length; day++) {
            Checks.due("moons(" + day + ")", x.moons(day), first[day]);
        }
        Checks.due("moons(9999)", x.moons(9999), 0);
        Checks.illegal("moons(-1)", () -> x.moons(-1));
        Checks.illegal("moons(10000)", () -> x.moons(10000));
    }

    private static void promise33() {
        WickNights x = Checks.on(Checks.COAST);
        Checks.due("itself", x.dark(0), 0);
        Checks.due("the next", x.dark(1), 3);
        Checks.due("the last", x.dark(9998), 9999);
        WickNights never = Checks.on("moon 1 0;");
        Checks.due("never", never.dark(0), -1);
        WickNights odd = Checks.on("moon 2 1;");
        Checks.due("not by the last", odd.dark(9999), -1);
        Checks.due("but ahead of it", odd.dark(9998), 9998);
        Checks.illegal("dark(-1)", () -> x.dark(-1));
        Checks.illegal("dark(10000)", () -> x.dark(10000));
    }

    private static void promise34() {
        WickNights x = Checks.on(Checks.COAST);
        Checks.due("the first", x.bright(0), 10);
        Checks.due("itself", x.bright(10), 10);
        Checks.due("the next", x.bright(11), 22);
        Checks.due("none by the last", x.bright(9995), -1);
        WickNights never = Checks.on("moon 2 0;moon 4 1;");
        Checks.due("never", never.bright(0), -1);
        Checks.due("no moons", new WickNights().bright(77), 77);
        Checks.illegal("bright(-1)", () -> x.bright(-1));
        Checks.illegal("bright(10000)", () -> x.bright(10000));
    }

    private static void promise35() {
        WickNights x = Checks.on(Checks.COAST);
        Checks.due("twelve days", x.darks(0, 11), 6);
        Checks.due("one day", x.darks(3, 3), 1);
        Checks.due("one bright day", x.darks(1, 1), 0);
        Checks.due("all days", x.darks(0, 9999), 833 * 6 + 2);
        Checks.illegal("darks(4, 3)", () -> x.darks(4, 3));
        Checks.illegal("darks(-1, 3)", () -> x.darks(-1, 3));
        Checks.illegal("darks(0, 10000)", () -> x.darks(0, 10000));
    }

    private static void promise36() {
        WickNights x = Checks.on(Checks.COAST);
        Checks.due("no clouds", x.clouds(5, 0, 0, 12, 0), 6);
        Checks.due("the longest row", x.clouds(5, 0, 0, 12, 1), 2);
        Checks.due("no clouds", x.clouds(5, 0, 0, 12, 2), 0);
        Checks.due("all clouded", x.clouds(5, 16, 0, 12, 0), 12);
        Checks.due("all in a row", x.clouds(5, 16, 0, 12, 1), 12);
        Checks.due("needless", x.clouds(5, 16, 0, 12, 2), 6);
        int[][] seeds = {{5, 8}, {0, 4}, {-1, 12}, {MIN, 1}, {MAX, 15}, {12345, 9}};
        for (int[] row : seeds) {
            cloudsAsTold(x, row[0], row[1], 9990, 60);
            cloudsAsTold(x, row[0], row[1], 3, 1);
        }
        Checks.illegal("q -1", () -> x.clouds(5, -1, 0, 1, 0));
        Checks.illegal("q 17", () -> x.clouds(5, 17, 0, 1, 0));
        Checks.illegal("day -1", () -> x.clouds(5, 1, -1, 1, 0));
        Checks.illegal("day 10000", () -> x.clouds(5, 1, 10000, 1, 0));
        Checks.illegal("n 0", () -> x.clouds(5, 1, 0, 0, 0));
        Checks.illegal("n 61", () -> x.clouds(5, 1, 0, 61, 0));
        Checks.illegal("what 3", () -> x.clouds(5, 1, 0, 1, 3));
        Checks.illegal("what -1", () -> x.clouds(5, 1, 0, 1, -1));
    }

    /** Draws with numbers of 64 bits that are cut to 32, and looks at the days as a text. */
    private static String sky(int seed, int q, int day, int n) {
        StringBuilder days = new StringBuilder();
        long drawn = seed & 0xFFFFFFFFL;
        for (int i = day; i < day + n; i++) {
            drawn = (drawn * 1103515245L + 12345L) & 0xFFFFFFFFL;
            boolean clouded = (drawn & 0x7FFFFFFFL) / 65536 % 16 < q;
            boolean moonless = i % 3 != 1 && i % 4 != 2;
            days.append(clouded ? moonless ? 'B' : 'C' : moonless ? 'D' : '.');
        }
        return days.toString();
    }

    private static void cloudsAsTold(WickNights x, int seed, int q, int day, int n) {
        String days = sky(seed, q, day, n);
        int longest = 0;
        for (String row : days.split("\\.")) {
            longest = Math.max(longest, row.length());
        }
        String call = "clouds(" + seed + ", " + q + ", " + day + ", " + n;
        Checks.due(call + ", 0)", x.clouds(seed, q, day, n, 0), days.replace(".", "").length());
        Checks.due(call + ", 1)", x.clouds(seed, q, day, n, 1), longest);
        Checks.due(call + ", 2)", x.clouds(seed, q, day, n, 2), days.replaceAll("[^B]", "").length());
    }

    private static void promise37() {
        WickNights x = Checks.on(Checks.COAST);
        Checks.due("all together", x.span(5, 3, 16, 0, 12, 2), 36);
        int[] seeds = {5, -3, MAX - 1};
        for (int seed : seeds) {
            int fewest = 99;
            int most = 0;
            int all = 0;
            for (int i = 0; i < 40; i++) {
                int many = sky(seed + i, 6, 100, 50).replace(".", "").length();
                fewest = Math.min(fewest, many);
                most = Math.max(most, many);
                all += many;
            }
            Checks.due("fewest from " + seed, x.span(seed, 40, 6, 100, 50, 0), fewest);
            Checks.due("most from " + seed, x.span(seed, 40, 6, 100, 50, 1), most);
            Checks.due("all from " + seed, x.span(seed, 40, 6, 100, 50, 2), all);
        }
        Checks.illegal("many 0", () -> x.span(5, 0, 1, 0, 1, 0));
        Checks.illegal("many 41", () -> x.span(5, 41, 1, 0, 1, 0));
        Checks.illegal("q -1", () -> x.span(5, 1, -1, 0, 1, 0));
        Checks.illegal("q 17", () -> x.span(5, 1, 17, 0, 1, 0));
        Checks.illegal("day -1", () -> x.span(5, 1, 1, -1, 1, 0));
        Checks.illegal("day 10000", () -> x.span(5, 1, 1, 10000, 1, 0));
        Checks.illegal("n 0", () -> x.span(5, 1, 1, 0, 0, 0));
        Checks.illegal("n 61", () -> x.span(5, 1, 1, 0, 61, 0));
        Checks.illegal("what 3", () -> x.span(5, 1, 1, 0, 1, 3));
        Checks.illegal("what -1", () -> x.span(5, 1, 1, 0, 1, -1));
    }

    private static void promise38() {
        WickNights x = Checks.on(Checks.COAST);
        Checks.due("now", x.ahead(0, 0, 0), 10);
        Checks.due("now", x.ahead(0, 0, 1), 4);
        Checks.due("good in a month", x.ahead(0, 1, 0), 14);
        Checks.due("watered in a month", x.ahead(0, 1, 1), 3);
        Checks.due("good in two", x.ahead(0, 2, 0), 14 - 3 + 6);
        Checks.due("watered in 60", x.ahead(0, 60, 1), 3);
        Checks.due("nothing is changed", x.told(4), 0);
        WickNights full = Checks.on("place 0 99 0 99;leaks 0;");
        Checks.due("999 at most", full.ahead(0, 60, 0), 999);
        Checks.missing("ahead(2, 61, 2)", () -> x.ahead(2, 61, 2));
        Checks.illegal("ahead(0, -1, 0)", () -> x.ahead(0, -1, 0));
        Checks.illegal("ahead(0, 61, 0)", () -> x.ahead(0, 61, 0));
        Checks.illegal("ahead(0, 1, 2)", () -> x.ahead(0, 1, 2));
        Checks.illegal("ahead(0, 1, -1)", () -> x.ahead(0, 1, -1));
    }

    private static void promise39() {
        WickNights x = Checks.on(Checks.COAST);
        Checks.due("place", x.chosen(0), 0);
        Checks.due("want", x.chosen(1), 3);
        WickNights alike = Checks.on("place 0 1 4 0;place 0 5 0 0;place 0 2 4 0;place 0 6 0 0;"
            + "want 0 3 0 1;want 0 12 0 5;want 0 5 0 2;want 1 10 0 4;want 1 5 0 2;want 2 5 0 2;");
        Checks.due("the first of 6", alike.chosen(0), 2);
        Checks.due("5 by 12", alike.chosen(1), 1);
        Checks.work(alike, "water 3 1;");
        Checks.due("7 of both", alike.chosen(0), 3);
        WickNights sold = Checks.on("place 0 99 0 0;want 0 9 0 9;want 0 3 0 2;want 0 6 0 4;");
        Checks.work(sold, "sell 0;");
        Checks.due("2 by 3, the first", sold.chosen(1), 1);
        Checks.work(sold, "sell 1;sell 2;");
        Checks.due("none is open", sold.chosen(1), -1);
        Checks.due("no places", new WickNights().chosen(0), -1);
        Checks.illegal("chosen(2)", () -> x.chosen(2));
        Checks.illegal("chosen(-1)", () -> x.chosen(-1));
    }

    private static void promise40And41() {
        WickNights x = Checks.on(Checks.COAST);
        Checks.due("no image", x.restore(), -1);
        Checks.work(x, "sell 0;sell 0;");
        Checks.due("image", x.image(), 1);
        Checks.due("it changes nothing", x.told(9), 1);
        Checks.work(x, "month;month;dig 0 1;");
        Checks.due("image", x.image(), 2);
        Checks.due("undo", x.undo(), 1);
        Checks.due("undo", x.undo(), 0);
        Checks.due("image", x.image(), 3);
        Checks.due("no fourth", x.image(), -1);
        Checks.law(x, 0, "hours");
        Checks.book(x, "0 2;");
        Checks.work(x, "month;sell 3;");
        Checks.due("restore", x.restore(), 2);
        Checks.due("none refused", x.told(9), 0);
        Checks.due("works", x.count(2), 0);
        Checks.due("month", x.told(4), 0);
        Checks.due("the law stays", x.arrives(0, 1, 10, 1), 10);
        Checks.due("the book stays", x.told(8), 1);
        Checks.due("restore", x.restore(), 1);
        Checks.due("works", x.count(2), 2);
        Checks.due("month", x.told(4), 2);
        Checks.due("dug", x.mine(0, 4), 3);
        Checks.due("undo", x.undo(), 1);
        Checks.due("month", x.told(4), 0);
        Checks.due("pence", x.told(5), 20);
        Checks.due("restore", x.restore(), 0);
        Checks.due("pence", x.told(5), 20);
        Checks.due("works", x.count(2), 1);
        Checks.due("undo", x.undo(), 0);
        Checks.due("pence", x.told(5), 0);
        Checks.due("no image", x.restore(), -1);
        Checks.due("image", x.image(), 1);
        imageOfAllWorks();
    }

    private static void imageOfAllWorks() {
        WickNights x = Checks.on(Checks.COAST);
        for (int i = 0; i < 16; i++) {
            Checks.work(x, "month;");
        }
        Checks.due("image", x.image(), 1);
        for (int i = 15; i >= 0; i--) {
            Checks.due("undo", x.undo(), i);
        }
        Checks.work(x, "sell 0;");
        Checks.due("restore", x.restore(), 0);
        Checks.due("works", x.count(2), 16);
        Checks.due("month", x.told(4), 16);
        for (int i = 15; i >= 0; i--) {
            Checks.due("undo", x.undo(), i);
            Checks.due("month", x.told(4), i);
        }
    }

    private static void promise42() {
        WickNights x = Checks.on(Checks.COAST);
        Checks.missing("place(9, 9)", () -> x.place(9, 9));
        Checks.missing("can(9)", () -> x.can(9));
        Checks.illegal("told(99)", () -> x.told(99));
        x.image();
        Checks.illegal("told(99)", () -> x.told(99));
        Checks.illegal("place(0, 99)", () -> x.place(0, 99));
        Checks.due("missing ones", x.status(0), 2);
        Checks.due("wrong ones", x.status(1), 3);
        x.restore();
        Checks.due("no image keeps it", x.status(1), 3);
        Checks.coast(x, "");
        Checks.due("nor a coast", x.status(0), 2);
        Checks.due("others", x.status(2), -1);
        Checks.due("others", x.status(-1), -1);
        Checks.due("others", x.status(MIN), -1);
        x.undo();
        x.restore();
        Checks.coast(x, "?");
        Checks.due("answers are no refusals", x.status(0) + x.status(1), 5);
    }

    private static void promise43() {
        WickNights x = Checks.on(Checks.COAST);
        Checks.feed(x, Checks.times(41, " "));
        Checks.due("bytes", x.count(1), 60);
        Checks.due("works", x.count(2), 0);
        x.work(1);
        Checks.due("bytes", x.count(1), 0);
        Checks.due("works", x.count(2), 1);
        x.image();
        x.image();
        Checks.due("images", x.count(0), 2);
        x.restore();
        Checks.due("images", x.count(0), 1);
        Checks.due("others", x.count(3), -1);
        Checks.due("others", x.count(-1), -1);
        Checks.due("others", x.count(MAX), -1);
    }
}
