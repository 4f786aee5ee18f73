/** Promises 1 to 8: what a new object is, the tape, and the four texts with their faults; undo. */
public final class TextsTest {
    private TextsTest() {
    }

    public static void main(String[] args) {
        promise1();
        promise2();
        promise3();
        promise3Faults();
        promise3Limits();
        promise4();
        promise4Faults();
        promise4Values();
        promise5();
        promise5Faults();
        promise5Agains();
        promise5Limit();
        promise6();
        promise7();
        promise8();
        Checks.end();
    }

    private static void coastFault(String text, int answer, int at) {
        WickNights x = Checks.on("place 1 2 3 4;");
        Checks.due("coast " + text, Checks.coast(x, text), answer);
        Checks.due("fault of " + text, x.fault(), at);
        Checks.due("tape behind " + text, x.count(1), 0);
        Checks.due("places behind " + text, x.told(0), 1);
        Checks.due("good behind " + text, x.place(0, 1), 2);
    }

    private static void lawFault(String text, int answer, int at) {
        WickNights x = Checks.on(Checks.COAST);
        Checks.due("law 7", Checks.law(x, 0, "7"), 1);
        Checks.due("law " + text, Checks.law(x, 0, text), answer);
        Checks.due("fault of " + text, x.fault(), at);
        Checks.due("tape behind " + text, x.count(1), 0);
        Checks.due("the old law behind " + text, x.arrives(0, 1, 99, 1), 7);
    }

    private static void workFault(String text, int answer, int at) {
        WickNights x = Checks.on(Checks.COAST);
        Checks.due("work " + text, Checks.work(x, text), answer);
        Checks.due("fault of " + text, x.fault(), at);
        Checks.due("tape behind " + text, x.count(1), 0);
        Checks.due("works behind " + text, x.count(2), 0);
        Checks.due("month behind " + text, x.told(4), 0);
    }

    private static void bookFault(String text, int answer, int at) {
        WickNights x = Checks.on(Checks.COAST);
        Checks.due("book", Checks.book(x, "1 2;"), 1);
        Checks.due("book " + text, Checks.book(x, text), answer);
        Checks.due("fault of " + text, x.fault(), at);
        Checks.due("tape behind " + text, x.count(1), 0);
        Checks.due("lines behind " + text, x.told(8), 1);
    }

    private static void promise1() {
        WickNights x = new WickNights();
        for (int what = 0; what <= 9; what++) {
            Checks.due("new told(" + what + ")", x.told(what), 0);
        }
        for (int what = 0; what <= 2; what++) {
            Checks.due("new count(" + what + ")", x.count(what), 0);
        }
        Checks.due("new fault()", x.fault(), -1);
        Checks.due("new status(0)", x.status(0), 0);
        Checks.due("new status(1)", x.status(1), 0);
        Checks.missing("new place(0, 0)", () -> x.place(0, 0));
        Checks.missing("new want(0, 0)", () -> x.want(0, 0));
        Checks.missing("new mine(0, 0)", () -> x.mine(0, 0));
        Checks.due("NONE", WickNights.NONE, -1);
    }

    private static void promise2() {
        WickNights x = new WickNights();
        for (int i = 1; i <= 30; i++) {
            Checks.due("feed " + i, x.feed(0, -1, 1, 2, 3), 20 * i);
        }
        Checks.due("feed 31", x.feed(0, 0, 0, 0, 0), -1);
        Checks.due("bytes behind feed 31", x.count(1), 600);
        WickNights y = new WickNights();
        // "place 7 1 2 3;" and blanks, the highest byte of each number first.
        Checks.due("feed", y.feed(0x706C6163, 0x65203720, 0x31203220, 0x333B2020, 0x20202020), 20);
        Checks.due("coast(20)", y.coast(20), 1);
        Checks.due("X", y.place(0, 0), 7);
        Checks.due("D", y.place(0, 3), 3);
        // Bytes above 127 are no signs of a text.
        y.feed(0xFF202020, 0x20202020, 0x20202020, 0x20202020, 0x20202020);
        Checks.due("coast of byte 255", y.coast(20), -9);
        Checks.due("fault of byte 255", y.fault(), 0);
    }

    private static void promise3() {
        WickNights x = new WickNights();
        Checks.due("coast(0)", x.coast(0), 0);
        Checks.due("blanks", Checks.coast(x, "     "), 0);
        Checks.due("coast", Checks.coast(x, "  place  0 010 04 6 ;place8 3 0 0;moon 30 29 ; "), 2);
        Checks.due("X of 1", x.place(1, 0), 8);
        Checks.due("good", x.place(0, 1), 10);
        Checks.due("moons", x.moons(29), 1);
        Checks.due("all else, leaks 1 without", x.ahead(0, 1, 0), 10 - 1 + 6);
        Checks.due("work", Checks.work(x, "month;"), 1);
        Checks.due("law", Checks.law(x, 0, "1"), 1);
        Checks.due("book", Checks.book(x, "0 2;"), 1);
        Checks.due("image", x.image(), 1);
        Checks.due("coast again", Checks.coast(x, Checks.COAST), 2);
        Checks.due("month", x.told(4), 0);
        Checks.due("no law", x.arrives(0, 1, 10, 1), 8);
        Checks.due("no book", x.told(8), 0);
        Checks.due("no images", x.count(0), 0);
        Checks.due("nothing to undo", x.undo(), -1);
        Checks.due("no image to restore", x.restore(), -1);
        Checks.work(x, "sell 3;");
        Checks.due("refused", x.told(9), 1);
        Checks.coast(x, Checks.COAST);
        Checks.due("refused ahead of any", x.told(9), 0);
        Checks.feed(x, "place 0 0 0 0;");
        Checks.illegal("coast(-1)", () -> x.coast(-1));
        Checks.illegal("coast(21)", () -> x.coast(21));
        Checks.illegal("coast(601)", () -> x.coast(601));
        Checks.due("the tape stays", x.count(1), 20);
        Checks.due("places stay", x.told(0), 2);
        Checks.due("refusals", x.status(1), 3);
        Checks.due("coast(20)", x.coast(20), 1);
    }

    private static void promise3Faults() {
        coastFault("place", -9, 5);
        coastFault("place ", -9, 6);
        coastFault("place 1 2 3 4", -9, 13);
        coastFault("place 1 2 3 4 5;", -9, 14);
        coastFault("place 1 2 3;", -9, 11);
        coastFault("Place 1 2 3 4;", -9, 0);
        coastFault("places 1 2 3 4;", -9, 0);
        coastFault(" plac 1 2 3 4;", -9, 1);
        coastFault(";", -9, 0);
        coastFault("5;", -9, 0);
        coastFault("place 1 2 3 4;;", -9, 14);
        coastFault("place -1 2 3 4;", -9, 6);
        coastFault("place 41 x;", -8, 6);
        coastFault("place 40 99 99 100;", -8, 15);
        coastFault("place 1 100 3 4;", -8, 8);
        coastFault("place 1 1 100 4;", -8, 10);
        coastFault("place 4294967297 2 3 4;", -8, 6);
        coastFault("place 99999999999999999999999 2 3 4;", -8, 6);
        coastFault("want 0 1 0 1;place 1 1 1 1;", -8, 5);
        coastFault("place 0 0 0 0;want 1 1 0 1;", -8, 19);
        coastFault("place 0 0 0 0;want 0 0 0 1;", -8, 21);
        coastFault("place 0 0 0 0;want 0 13 0 1;", -8, 21);
        coastFault("place 0 0 0 0;want 0 12 2 1;", -8, 24);
        coastFault("place 0 0 0 0;want 0 12 1 100;", -8, 26);
        coastFault("mine 0 1 1;", -8, 5);
        coastFault("place 0 0 0 0;mine 0 401 1;", -8, 21);
        coastFault("place 0 0 0 0;mine 0 400 12;", -8, 25);
        coastFault("moon 0 0;", -8, 5);
        coastFault("moon 31 0;", -8, 5);
        coastFault("moon 30 30;", -8, 8);
        coastFault("moon 1 1;", -8, 7);
        coastFault("leaks 9;", -8, 6);
        coastFault("shaft 100;", -8, 6);
        coastFault("leaks;", -9, 5);
        coastFault("leaks\t1;", -9, 5);
    }

    private static void promise3Limits() {
        WickNights x = new WickNights();
        Checks.due("6 places", Checks.coast(x, Checks.times(6, "place 40 99 99 99;")), 6);
        Checks.due("all good", x.told(6), 594);
        coastFault(Checks.times(6, "place 0 0 0 0;") + "place x", -7, 84);
        coastFault(Checks.times(6, "place 0 0 0 0;") + " placed", -9, 85);
        String wants = "place 0 0 0 0;" + Checks.times(12, "want 0 12 1 99;");
        Checks.due("12 wants", Checks.coast(x, wants), 1);
        Checks.due("wants", x.told(1), 12);
        coastFault(wants + "want 9", -7, wants.length());
        String mines = "place 0 0 0 0;" + Checks.times(3, "mine 0 400 11;");
        Checks.due("3 mines", Checks.coast(x, mines), 1);
        Checks.due("mines", x.told(2), 3);
        coastFault(mines + "mine;", -7, mines.length());
        String moons = Checks.times(3, "moon 30 29;");
        Checks.due("3 moons", Checks.coast(x, moons), 0);
        Checks.due("moons", x.told(3), 3);
        coastFault(moons + "moon 1 0;", -7, moons.length());
        String sixty = Checks.times(59, "leaks 1;") + "leaks 8;";
        Checks.due("60 clauses", Checks.coast(x, sixty + "   "), 0);
        coastFault(sixty + "leaks 1;", -7, 480);
        coastFault(sixty + " shaft 1;", -7, 481);
        coastFault(sixty + "place 0 0 0 0;", -7, 480);
        coastFault(sixty + "leak 1;", -9, 480);
        coastFault(sixty + ";", -9, 480);
        // The last of each setting counts.
        WickNights y = Checks.on("leaks 8;leaks 4;shaft 9;shaft 7;place 0 16 8 0;mine 0 9 0;");
        Checks.due("half leaks", y.ahead(0, 1, 0), 8);
        Checks.work(y, "dig 0 2;");
        Checks.due("seven pence a shaft", y.told(5), -14);
        // 3 pence a shaft, and one hour of eight leaks, without.
        WickNights z = Checks.on("place 0 16 8 0;mine 0 9 0;");
        Checks.due("one of eight leaks", z.ahead(0, 1, 0), 14);
        Checks.work(z, "dig 0 2;");
        Checks.due("three pence a shaft", z.told(5), -6);
    }

    private static void promise4() {
        WickNights x = Checks.on(Checks.COAST);
        Checks.due("law", Checks.law(x, 0, "hours - far - good"), 1);
        Checks.due("arrives good", x.arrives(0, 1, 20, 1), 11);
        Checks.due("arrives watered", x.arrives(0, 1, 20, 0), 12);
        Checks.due("digs as without", x.digs(0, 2), 6);
        Checks.due("law of digging", Checks.law(x, 1, "shafts + left"), 1);
        Checks.due("all that is left", x.digs(0, 2), 20);
        Checks.due("the other law stays", x.arrives(0, 1, 20, 1), 11);
        Checks.due("another law", Checks.law(x, 0, "hours"), 1);
        Checks.due("all arrive", x.arrives(0, 1, 20, 1), 20);
        Checks.feed(x, "1");
        Checks.illegal("law(2, 1)", () -> x.law(2, 1));
        Checks.illegal("law(-1, 1)", () -> x.law(-1, 1));
        Checks.illegal("law(0, 21)", () -> x.law(0, 21));
        Checks.illegal("law(0, -1)", () -> x.law(0, -1));
        Checks.due("the tape stays", x.count(1), 20);
        Checks.feed(x, Checks.times(160, " "));
        Checks.illegal("law(0, 151)", () -> x.law(0, 151));
        Checks.due("law(0, 150)", x.law(0, 150), 1);
        Checks.due("the law 1", x.arrives(0, 1, 20, 1), 1);
        // The longest row of numbers and signs that goes into 150 bytes.
        Checks.due("75 ones", Checks.law(x, 0, Checks.times(74, "1+") + "1 "), 1);
        Checks.due("75 arrive", x.arrives(0, 1, 99, 1), 75);
    }

    private static void promise4Faults() {
        lawFault("", -9, 0);
        lawFault("   ", -9, 3);
        lawFault("1 1", -9, 2);
        lawFault("1+", -9, 2);
        lawFault("+1", -9, 0);
        lawFault("-1", -9, 0);
        lawFault("1+*2", -9, 2);
        lawFault("1)", -9, 1);
        lawFault("(1", -9, 2);
        lawFault("(1]", -9, 2);
        lawFault("()", -9, 1);
        lawFault("1000", -8, 0);
        lawFault("1 + 01000 +", -8, 4);
        lawFault("1 + 0999 +", -9, 10);
        lawFault("99999999999", -8, 0);
        lawFault("hour", -9, 0);
        lawFault("hourss", -9, 0);
        lawFault("hours1", -9, 5);
        lawFault("1hours", -9, 1);
        lawFault("Hours", -9, 0);
        lawFault("least", -9, 5);
        lawFault("least(1,2)", -9, 5);
        lawFault("least[1]", -9, 7);
        lawFault("least[1,]", -9, 8);
        lawFault("least[1,2", -9, 9);
        lawFault("most[1,2,3]", -9, 8);
        lawFault("mostly[1,2]", -9, 0);
        lawFault("((((((1))))))+(((((( (1", -7, 21);
        lawFault("(((((least[1,(2)]", -7, 13);
        lawFault("(((least[1,most[2,( least[", -7, 20);
        lawFault("((((((least", -7, 6);
        lawFault("((((((most", -7, 6);
        lawFault("((((((lest", -9, 6);
        lawFault("1;", -9, 1);
        lawFault("1 % 2", -9, 2);
    }

    private static int lawValue(String text) {
        WickNights x = Checks.on("place 0 0 0 0;place 7 0 0 0;mine 0 400 11;");
        Checks.due("law " + text, Checks.law(x, 0, text), 1);
        return x.arrives(0, 1, 500, 1);
    }

    private static void promise4Values() {
        Checks.due("7-2-1", lawValue("7-2-1"), 4);
        Checks.due("2+3*4", lawValue("2+3*4"), 14);
        Checks.due("(2+3)*4", lawValue("(2+3)*4"), 20);
        Checks.due("100/7/2", lawValue("100/7/2"), 7);
        Checks.due("7/2*2", lawValue("7/2*2"), 6);
        Checks.due("cut to 0", lawValue("10+(0-7)/2"), 7);
        Checks.due("by 0", lawValue("5+9/(3-3)"), 5);
        Checks.due("least", lawValue("least[9,4]"), 4);
        Checks.due("most", lawValue("most [ 9 , least[99,44] ]"), 44);
        Checks.due("hours", lawValue("hours"), 500);
        Checks.due("far", lawValue("far"), 7);
        Checks.due("good", lawValue("good*9"), 9);
        Checks.due("shafts, left", lawValue("1+shafts+left+month+year"), 1);
        Checks.due("not below 0", lawValue("0-1"), 0);
        Checks.due("not above all", lawValue("501"), 500);
        // 999^4 and so on wrap as numbers of 32 bits do.
        Checks.due("wraps", lawValue("999*999*999*999/(999*999)"), Math.max(0, Math.min(500, wrapped() / 998001)));
        Checks.due("wraps below", lawValue("least[999*999*999*5, 0-1]+ 300"),
            Math.max(0, Math.min(500, Math.min(999 * 999 * 999 * 5, -1) + 300)));
        // The least of all, by -1, is itself again.
        Checks.due("least by -1", lawValue("512*512*512*16/(0-1)/(512*512*512)"), 0);
        Checks.due("-16, made good", lawValue("30 + 512*512*512*16/(0-1)/(512*512*512)"), 14);
        Checks.due("six open", lawValue("((((((3))))))+((((((4))))))"), 7);
        Checks.due("deep", lawValue("1+1*most[2+2*1,3+3*(4+4*least[5+5*5,6+6*(7+7*(8+8*9))])]"), 1 + deep());
        // As many numbers wait for their sign as can: three for each of six brackets, and two within.
        Checks.due("deepest", lawValue(Checks.times(6, "1+1*least[9,") + "1+1*1" + Checks.times(6, "]")), 8);
        lawOfDigging();
        lawOfMonths();
    }

    private static int wrapped() {
        return 999 * 999 * 999 * 999;
    }

    private static int deep() {
        return Math.max(4, 3 + 3 * (4 + 4 * Math.min(30, 6 + 6 * (7 + 7 * 80))));
    }

    private static void lawOfDigging() {
        WickNights x = Checks.on("place 3 0 0 0;place 7 0 0 0;mine 1 50 11;");
        Checks.due("law", Checks.law(x, 1, "hours*100+far*10+good+shafts*left/10"), 1);
        Checks.due("hours 0, far 0, good 1", x.digs(0, 2), 1 + 10);
        Checks.due("none by no shafts", x.digs(0, 0), 0);
        Checks.due("law", Checks.law(x, 1, "0-shafts"), 1);
        Checks.due("0 at least", x.digs(0, 9), 0);
        Checks.due("law", Checks.law(x, 1, "900"), 1);
        Checks.due("what is left at most", x.digs(0, 1), 50);
    }

    private static void lawOfMonths() {
        WickNights x = Checks.on("place 0 0 0 0;place 7 0 0 0;mine 0 400 0;");
        Checks.due("law", Checks.law(x, 0, "year*100+month"), 1);
        Checks.due("law", Checks.law(x, 1, "year*100+month"), 1);
        Checks.due("work", Checks.work(x, "again 11[month;];"), 11);
        Checks.due("month 11", x.arrives(0, 1, 900, 1), 11);
        Checks.due("work", Checks.work(x, "again 20[month;];"), 20);
        Checks.due("month 31", x.arrives(1, 0, 900, 0), 207);
        Checks.due("digs in month 31", x.digs(0, 1), 207);
    }

    private static void promise5() {
        WickNights x = Checks.on(Checks.COAST);
        Checks.due("work(0)", x.work(0), 0);
        Checks.due("a work", x.count(2), 1);
        Checks.due("carry", Checks.work(x, "carry 0 1 5 1;carry 0 1 4 0;"), 2);
        Checks.due("good at 0", x.place(0, 1), 5);
        Checks.due("watered at 0", x.place(0, 2), 0);
        Checks.due("good at 1", x.place(1, 1), 3 + 4);
        Checks.due("watered at 1", x.place(1, 2), 4);
        Checks.due("carry too many", Checks.work(x, "carry 0 1 6 1;carry 0 1 1 0;carry 1 0 7 1;"), 1);
        Checks.due("two refused", x.told(9), 2);
        Checks.due("good at 0", x.place(0, 1), 5 + 6);
        Checks.due("sell", Checks.work(x, "sell 0;sell 0;sell 3; sell 2;"), 2);
        Checks.due("two refused", x.told(9), 2);
        Checks.due("pence", x.told(5), 32);
        Checks.due("good at 0", x.place(0, 1), 11 - 6 - 4);
        Checks.due("water", Checks.work(x, "water 0 1;water 0 1;"), 1);
        Checks.due("watered at 0", x.place(0, 2), 2);
        Checks.due("dig while not open", Checks.work(x, "dig 0 1;month;dig 0 1;month;dig 0 9;dig 0 1;"), 3);
        Checks.due("three refused", x.told(9), 3);
        Checks.due("pence behind 9 shafts", x.told(5), 32 - 45);
        Checks.due("good at 1", x.place(1, 1), 20);
        Checks.due("left", x.mine(0, 1), 0);
        Checks.due("dug", x.mine(0, 4), 20);
        Checks.due("wants are open", x.want(0, 4), 1);
        sellsWateredFirst();
        losesMoreThan999();
        leaksAndComes();
    }

    private static void sellsWateredFirst() {
        WickNights x = Checks.on("place 0 9 3 0;want 0 5 0 7;want 0 7 1 11;");
        Checks.due("sell", Checks.work(x, "sell 0;"), 1);
        Checks.due("watered", x.place(0, 2), 0);
        Checks.due("good", x.place(0, 1), 7);
        Checks.due("sell good ones alone", Checks.work(x, "sell 1;"), 1);
        Checks.due("good", x.place(0, 1), 0);
        Checks.due("sold", x.want(1, 5), 1);
        WickNights y = Checks.on("place 0 2 9 0;want 0 3 1 7;want 0 11 0 9;");
        Checks.due("too few good ones", Checks.work(y, "sell 0;sell 1;"), 1);
        Checks.due("pence", y.told(5), 9);
    }

    private static void losesMoreThan999() {
        WickNights x = Checks.on("place 0 99 99 99;place 0 99 99 0;leaks 0;mine 0 400 0;");
        Checks.due("months", Checks.work(x, "again 12[month;];"), 12);
        Checks.due("no more than 999", x.place(0, 1), 999);
        Checks.due("none leaked", x.place(0, 4), 0);
        Checks.due("dig", Checks.work(x, "dig 0 9;"), 1);
        Checks.due("dug though lost", x.mine(0, 4), 27);
        Checks.due("left", x.mine(0, 1), 373);
        Checks.due("no more than 999", x.place(0, 1), 999);
        Checks.due("carry", Checks.work(x, "carry 1 0 99 1;"), 1);
        Checks.due("no more than 999", x.place(0, 1), 999);
        Checks.due("they left", x.place(1, 1), 0);
        Checks.due("water", Checks.work(x, "again 5[water 0 99;];"), 5);
        Checks.due("no more than 999 watered", x.place(0, 2), 999);
        Checks.due("good", x.place(0, 1), 504);
    }

    private static void leaksAndComes() {
        WickNights x = Checks.on("place 0 15 7 5;leaks 3;");
        Checks.due("month", Checks.work(x, "month;"), 1);
        Checks.due("good", x.place(0, 1), 15 - 5 + 5);
        Checks.due("watered", x.place(0, 2), 7 - 2);
        Checks.due("leaked", x.place(0, 4), 7);
        WickNights y = Checks.on("place 0 15 7 5;leaks 8;");
        Checks.due("month", Checks.work(y, "month;"), 1);
        Checks.due("all leak", y.place(0, 1), 5);
        Checks.due("all leak", y.place(0, 2), 0);
        Checks.due("leaked", y.place(0, 4), 22);
    }

    private static void promise5Faults() {
        workFault("carry", -9, 5);
        workFault("carry 0 1 1 1", -9, 13);
        workFault("carry 0 0 1 1;", -8, 8);
        workFault("carry 0 00 1 1;", -8, 8);
        workFault("carry 1   1 100 1;", -8, 10);
        workFault("carry 2 0 1 1;", -8, 6);
        workFault("carry 0 2 1 1;", -8, 8);
        workFault("carry 0 1 0 1;", -8, 10);
        workFault("carry 0 1 100 1;", -8, 10);
        workFault("carry 0 1 99 2;", -8, 13);
        workFault("sell 4;", -8, 5);
        workFault("sell;", -9, 4);
        workFault("water 2 1;", -8, 6);
        workFault("water 0 0;", -8, 8);
        workFault("water 0 100;", -8, 8);
        workFault("dig 1 1;", -8, 4);
        workFault("dig 0 0;", -8, 6);
        workFault("dig 0 10;", -8, 6);
        workFault("month", -9, 5);
        workFault("month 1;", -9, 6);
        workFault("months;", -9, 0);
        workFault("month;month;Month;", -9, 12);
        workFault("month;;", -9, 6);
        workFault("]", -9, 0);
        workFault("month;];", -9, 6);
        workFault("again 21[];", -8, 6);
        workFault("again [];", -9, 6);
        workFault("again 2(];", -9, 7);
        workFault("again 2[month];", -9, 13);
        workFault("again 2[month;", -9, 14);
        workFault("again 2[month;]", -9, 15);
        workFault("again 2[month;]month;", -9, 15);
        workFault("again 2[month;]];", -9, 15);
        workFault(Checks.times(6, "again 1[") + "again 1[", -7, 48);
        workFault(Checks.times(6, "again 1[") + "  again", -7, 50);
        workFault(Checks.times(6, "again 1[") + "agains", -9, 48);
        WickNights x = new WickNights();
        Checks.due("water without places", Checks.work(x, "water 0 1;"), -8);
        Checks.due("sell without wants", Checks.work(x, "sell 0;"), -8);
        Checks.due("dig without mines", Checks.work(x, "dig 0 1;"), -8);
        Checks.due("its fault", x.fault(), 4);
        Checks.feed(x, Checks.times(160, " "));
        Checks.illegal("work(-1)", () -> x.work(-1));
        Checks.illegal("work(151)", () -> x.work(151));
        Checks.due("the tape stays", x.count(1), 160);
        Checks.due("the fault stays", x.fault(), 4);
        Checks.due("work(150)", x.work(150), 0);
        Checks.illegal("work(1)", () -> x.work(1));
    }

    private static void promise5Agains() {
        WickNights x = Checks.on(Checks.COAST);
        Checks.due("25 steps", Checks.work(x, Checks.times(25, "month;")), 25);
        Checks.due("again 0", Checks.work(x, "again 0[month;];month;"), 1);
        Checks.due("months", x.told(4), 26);
        Checks.due("again in again", Checks.work(x, "again 2[again 3[month;];again 0[];sell 3;];"), 6);
        Checks.due("refused in again", x.told(9), 2);
        Checks.due("six open", Checks.work(x,
            Checks.times(6, "again 1[") + "month;" + Checks.times(6, "];")), 1);
        Checks.due("two rows of six", Checks.work(x, "again 1[again 1[];];again 1[again 1[month;];];"), 1);
        // 1 and 20 times (1 and 20): 200 are begun, 10 of them agains, ahead of all the months.
        Checks.due("200 begun", Checks.work(x, "again 20[again 20[month;];];month;"), 200 - 1 - 10);
        Checks.due("199 months", Checks.work(x, "again 19[again 10[month;];];month;"), 180);
        Checks.due("empty agains are begun", Checks.work(x, "again 20[again 9[again 0[];];];month;"), 0);
        WickNights y = Checks.on("place 0 5 0 0;want 0 6 0 1;");
        Checks.due("199 begun", Checks.work(y, "again 18[again 10[sell 0;];];month;month;"), 1);
        Checks.due("refused", y.told(9), 180);
        Checks.due("one month of two", y.told(4), 1);
        WickNights z = Checks.on("place 0 5 0 0;want 0 6 0 1;");
        Checks.due("all are refused", Checks.work(z, "again 20[again 20[sell 0;];];month;"), 0);
        Checks.due("refused", z.told(9), 189);
        Checks.due("no month", z.told(4), 0);
    }

    private static void promise5Limit() {
        WickNights x = Checks.on(Checks.COAST);
        for (int i = 1; i <= 16; i++) {
            Checks.due("work " + i, Checks.work(x, "month;"), 1);
        }
        Checks.due("a fault", Checks.coast(x, "?"), -9);
        Checks.due("the 17th", Checks.work(x, "?"), -20);
        Checks.due("no fault", x.fault(), -1);
        Checks.due("the tape is empty", x.count(1), 0);
        Checks.due("month", x.told(4), 16);
        Checks.illegal("work(1)", () -> x.work(1));
        Checks.due("undo", x.undo(), 15);
        Checks.due("the 16th", Checks.work(x, "month;"), 1);
        Checks.due("the 17th", Checks.work(x, "month;"), -20);
    }

    private static void promise6() {
        WickNights x = Checks.on(Checks.times(6, "place 0 0 0 0;"));
        Checks.due("book(0)", x.book(0), 0);
        Checks.due("six lines", Checks.book(x, "5 99;4 0;3 1;2 1 ; 1 1;0 02; "), 6);
        Checks.due("lines", x.told(8), 6);
        Checks.due("another book", Checks.book(x, "3 0;"), 1);
        Checks.due("lines", x.told(8), 1);
        Checks.due("sets without 2, 3, 4", x.leaky(0), 8);
        bookFault("2 1;", -8, 0);
        bookFault("0 100;", -8, 2);
        bookFault("0 1;0 1;", -8, 4);
        bookFault("0 1; 00 x", -8, 5);
        bookFault("0;", -9, 1);
        bookFault("0 1", -9, 3);
        bookFault("0 1;;", -9, 4);
        bookFault("x 1;", -9, 0);
        bookFault("0 1;1", -9, 5);
        Checks.due("a 7th line is none such", Checks.book(x, "5 9;4 0;3 1;2 1;1 1;0 2;0 1;"), -8);
        Checks.due("its place", x.fault(), 24);
        Checks.feed(x, Checks.times(120, " "));
        Checks.illegal("book(101)", () -> x.book(101));
        Checks.illegal("book(-1)", () -> x.book(-1));
        Checks.due("book(100)", x.book(100), 0);
        Checks.illegal("book(1)", () -> x.book(1));
    }

    private static void promise7() {
        WickNights x = new WickNights();
        Checks.due("without", x.fault(), -1);
        Checks.coast(x, "place ?");
        Checks.due("of a coast", x.fault(), 6);
        Checks.illegal("coast(1)", () -> x.coast(1));
        Checks.due("behind a refusal", x.fault(), 6);
        Checks.law(x, 0, "1");
        Checks.due("of the latest text", x.fault(), -1);
        Checks.book(x, " ?");
        Checks.due("of a book", x.fault(), 1);
        x.work(0);
        Checks.due("behind a work", x.fault(), -1);
    }

    private static void promise8() {
        WickNights x = Checks.on(Checks.COAST);
        Checks.due("nothing", x.undo(), -1);
        Checks.work(x, "sell 0;month;month;dig 0 2;");
        Checks.work(x, "sell 0;sell 0;carry 0 1 3 1;");
        Checks.due("refused", x.told(9), 1);
        Checks.due("pence", x.told(5), 30);
        Checks.due("undo", x.undo(), 1);
        Checks.due("none refused", x.told(9), 0);
        Checks.due("pence", x.told(5), 10);
        Checks.due("want", x.want(0, 4), 1);
        Checks.due("sold", x.want(0, 5), 1);
        Checks.due("month", x.told(4), 2);
        Checks.due("left", x.mine(0, 1), 14);
        Checks.due("undo", x.undo(), 0);
        Checks.due("month", x.told(4), 0);
        Checks.due("pence", x.told(5), 0);
        Checks.due("sold", x.want(0, 5), 0);
        Checks.due("left", x.mine(0, 1), 20);
        Checks.due("dug", x.mine(0, 4), 0);
        Checks.due("leaked", x.place(0, 4), 0);
        Checks.due("good", x.place(0, 1), 10);
        Checks.due("nothing more", x.undo(), -1);
        Checks.work(x, "sell 3;");
        Checks.coast(x, "?");
        Checks.work(x, "?");
        Checks.due("a work that was not done is none", x.undo(), 0);
        Checks.work(x, "sell 3;");
        x.undo();
        Checks.due("nothing", x.undo(), -1);
    }
}
