/** Sentences of the document that name an edge of what is asked about hours, wants and mines: promises 9 to 20, 38, 39. */
public final class EdgesOfAsksTest {
    private EdgesOfAsksTest() {
    }

    public static void main(String[] args) {
        nothingChanges();
        told();
        missingOnes();
        otherWhats();
        places();
        wantsAndMines();
        carriedAndDug();
        sales();
        more();
        brings();
        price();
        corner();
        ahead();
        chosen();
        Checks.end();
    }

    private static void nothingChanges() {
        Edges.edge("Asked, nothing stays changed.", """
            on "place 0 9 4 3;place 5 8 2 1;want 0 3 1 9;want 1 2 0 7;mine 0 30 0;moon 3 1;"
            book "0 2;" = 1
            work "sell 0;sell 0;" = 1
            feed "month;" = 20
            arrives 0 1 5 1 = 5
            digs 0 9 = 27
            can 1 = yes
            sales 0 = 7
            sales 1 = 2
            more 0 99 = 7
            brings 0 1 0 = 0
            brings 1 0 1 = 7
            price 0 = 0
            corner 1 8 = -1
            corner 1 1 = -1
            nights 0 12 = 1
            night 1 12 = 0
            leaky 0 = 1
            misses 0 3 = 3
            seam 0 4 9 0 = 20
            sellers 1 20 0 = 3
            gets 1 7 7 = 7
            clouds 1 7 0 10 0 = 7
            span 1 2 7 0 10 1 = 8
            ahead 0 60 0 = 24
            chosen 0 = 0
            chosen 1 = 1
            fault = -1
            count 0 = 0
            count 1 = 20
            count 2 = 1
            told 4 = 0
            told 5 = 9
            told 6 = 14
            told 7 = 6
            told 8 = 1
            told 9 = 1
            place 0 1 = 6
            place 0 2 = 4
            place 0 4 = 0
            place 1 1 = 8
            place 1 2 = 2
            want 0 4 = 0
            want 0 5 = 1
            want 1 4 = 1
            mine 0 1 = 30
            mine 0 4 = 0
            """);
    }

    private static void told() {
        Edges.edge("0 PLACES, 1 WANTS, 2 MINES, 3 MOONS", """
            told 0 = 0
            told 1 = 0
            told 2 = 0
            told 3 = 0
            on "place 0 0 0 0;"*6+"want 5 1 0 0;"*12+"mine 5 0 0;"*3+"moon 1 0;"*3
            told 0 = 6
            told 1 = 12
            told 2 = 3
            told 3 = 3
            coast "place 0 0 0 0;" = 1
            told 0 = 1
            told 1 = 0
            told 2 = 0
            told 3 = 0
            """);
        Edges.edge("4 the MONTH (from 0 on), 5 pence", """
            told 4 = 0
            told 5 = 0
            on "place 0 0 0 0;mine 0 9 0;"
            work "again 13[month;];" = 13
            told 4 = 13
            work "dig 0 1;" = 1
            told 5 = -3
            """);
        Edges.edge("6 good hours in all, 7 watered ones", """
            told 6 = 0
            told 7 = 0
            on "place 0 99 98 0;"*6
            told 6 = 594
            told 7 = 588
            """);
        Edges.edge("8 lines of the BOOK", """
            told 8 = 0
            on "place 0 0 0 0;"*6
            told 8 = 0
            book "0 1;1 1;2 1;3 1;4 1;5 1;" = 6
            told 8 = 6
            book "0 1;?" = -9
            told 8 = 6
            book "" = 0
            told 8 = 0
            """);
        Edges.edge("9 STEPS REFUSED by the latest WORK (0 ahead of any, behind undo(), restore()).", """
            told 9 = 0
            on "place 0 0 0 0;want 0 1 0 1;"
            told 9 = 0
            work "sell 0;sell 0;" = 0
            told 9 = 2
            work "sell 0;month;?" = -9
            told 9 = 2
            work "sell 0;" = 0
            told 9 = 1
            undo = 1
            told 9 = 0
            image = 1
            work "again 20[sell 0;];" = 0
            told 9 = 20
            restore = 0
            told 9 = 0
            work "sell 0;" = 0
            image = 1
            told 9 = 1
            work "month;" = 1
            told 9 = 0
            work "sell 0;" = 0
            coast "place 0 0 0 0;want 0 1 0 1;" = 1
            told 9 = 0
            """);
    }

    /** Each call that names a PLACE, WANT or MINE, with one too small and one too large, all else being wrong too. */
    private static void missingOnes() {
        Edges.edge("NoSuchElementException: no such PLACE, WANT, MINE (so below, ahead of others).", """
            on "place 0 0 0 0;place 0 0 0 0;want 0 1 0 1;mine 0 1 0;"
            place -1 -1 = missing
            place 2 6 = missing
            place MIN 0 = missing
            place MAX 0 = missing
            want -1 -1 = missing
            want 1 6 = missing
            want MIN 0 = missing
            want MAX 0 = missing
            mine -1 -1 = missing
            mine 1 5 = missing
            mine MIN 0 = missing
            mine MAX 0 = missing
            arrives -1 0 -1 2 = missing
            arrives 0 -1 1000 -1 = missing
            arrives 2 0 1 1 = missing
            arrives 0 2 1 1 = missing
            arrives 2 2 1 1 = missing
            digs -1 -1 = missing
            digs 1 10 = missing
            can -1 = missing
            can 1 = missing
            can MAX = missing
            more -1 -1 = missing
            more 2 100 = missing
            brings -1 -1 0 = missing
            brings 0 2 2 = missing
            brings 2 0 -1 = missing
            price -1 = missing
            price 2 = missing
            corner -1 -1 = missing
            corner 2 101 = missing
            nights -1 0 = missing
            nights 2 25 = missing
            night -1 0 = missing
            night 1 25 = missing
            misses -1 -1 = missing
            misses 2 4 = missing
            seam -1 0 -1 -1 = missing
            seam 1 5 10 2 = missing
            sellers -1 -1 -1 = missing
            sellers 2 21 3 = missing
            gets -1 -1 -1 = missing
            gets 2 100 100 = missing
            ahead -1 -1 -1 = missing
            ahead 2 61 2 = missing
            status 0 = 45
            status 1 = 0
            """);
    }

    private static void otherWhats() {
        Edges.edge("IllegalArgumentException: another what (so below).", """
            on "place 0 0 0 0;place 0 0 0 0;want 0 1 0 1;mine 0 1 0;"
            told -1 = wrong
            told 10 = wrong
            told MIN = wrong
            told MAX = wrong
            place 0 -1 = wrong
            place 0 6 = wrong
            want 0 -1 = wrong
            want 0 6 = wrong
            mine 0 -1 = wrong
            mine 0 5 = wrong
            sales -1 = wrong
            sales 2 = wrong
            brings 0 1 -1 = wrong
            brings 0 1 2 = wrong
            option 1 1 1 1 1 1 -1 = wrong
            option 1 1 1 1 1 1 2 = wrong
            late 1 1 1 1 1 1 -1 = wrong
            late 1 1 1 1 1 1 2 = wrong
            looks 1 1 -1 = wrong
            looks 1 1 2 = wrong
            leaky -1 = wrong
            leaky 4 = wrong
            seam 0 1 1 -1 = wrong
            seam 0 1 1 2 = wrong
            sellers 0 1 -1 = wrong
            sellers 0 1 3 = wrong
            clouds 1 1 1 1 -1 = wrong
            clouds 1 1 1 1 3 = wrong
            span 1 1 1 1 1 -1 = wrong
            span 1 1 1 1 1 3 = wrong
            ahead 0 1 -1 = wrong
            ahead 0 1 2 = wrong
            chosen -1 = wrong
            chosen 2 = wrong
            status 0 = 0
            status 1 = 34
            """);
    }

    private static void places() {
        Edges.edge("Of a PLACE: 0 X, 1 good, 2 watered hours, 3 D", """
            on "place 40 0 99 0;place 0 99 0 99;"
            place 0 0 = 40
            place 0 1 = 0
            place 0 2 = 99
            place 0 3 = 0
            place 1 0 = 0
            place 1 1 = 99
            place 1 2 = 0
            place 1 3 = 99
            work "carry 1 0 99 1;month;" = 2
            place 1 1 = 99
            place 1 3 = 99
            """);
        Edges.edge("4 how many LEAKED (of both kinds) by now", """
            on "place 0 8 16 0;place 0 7 7 0;"
            place 0 4 = 0
            work "month;" = 1
            place 0 4 = 3
            place 1 4 = 0
            work "month;" = 1
            place 0 4 = 4
            undo = 1
            place 0 4 = 3
            """);
        Edges.edge("5 hours of open WANTS there.", """
            on "place 0 99 0 0;place 0 99 0 0;place 0 0 0 0;want 0 12 0 1;want 0 1 1 0;want 1 5 0 1;"
            place 0 5 = 13
            place 1 5 = 5
            place 2 5 = 0
            work "sell 0;" = 1
            place 0 5 = 1
            work "sell 1;sell 2;" = 2
            place 0 5 = 0
            place 1 5 = 0
            work "month;" = 1
            place 0 5 = 13
            """);
    }

    private static void wantsAndMines() {
        Edges.edge("4 1 open, 0 sold this MONTH, 5 how often it was sold by now.", """
            on "place 0 99 0 0;want 0 1 0 1;"
            want 0 4 = 1
            want 0 5 = 0
            work "sell 0;sell 0;" = 1
            want 0 4 = 0
            want 0 5 = 1
            work "month;sell 0;" = 2
            want 0 5 = 2
            work "month;" = 1
            want 0 4 = 1
            want 0 5 = 2
            """);
        Edges.edge("1 what is left, 2 A, 3 1 open now, 0 not, 4 dug by now.", """
            on "place 0 0 0 0;mine 0 4 1;mine 0 0 0;"
            mine 0 1 = 4
            mine 0 3 = 0
            mine 1 3 = 1
            work "month;dig 0 1;" = 2
            mine 0 1 = 1
            mine 0 3 = 1
            mine 0 4 = 3
            work "dig 0 9;" = 1
            mine 0 1 = 0
            mine 0 3 = 1
            mine 0 4 = 4
            on "place 0 0 0 0;mine 0 40 0;mine 0 50 0;mine 0 60 0;"
            work "dig 0 1;dig 1 2;dig 2 3;" = 3
            mine 0 1 = 37
            mine 0 4 = 3
            mine 1 1 = 44
            mine 1 4 = 6
            mine 2 1 = 51
            mine 2 4 = 9
            """);
    }

    private static void carriedAndDug() {
        Edges.edge("How many of n hours (0 to 999) arrive, carried from one PLACE to another (good: 1, or 0).", """
            on "place 0 0 0 0;place 20 0 0 0;"
            arrives 0 1 0 1 = 0
            arrives 0 1 0 0 = 0
            arrives 0 1 999 1 = 500
            arrives 0 1 999 0 = 500
            arrives 1 0 1 1 = 1
            """);
        Edges.edge("IllegalArgumentException: one PLACE, n, good.", """
            on "place 0 0 0 0;place 20 0 0 0;"
            arrives 0 0 1 1 = wrong
            arrives 1 1 1 0 = wrong
            arrives 0 1 -1 1 = wrong
            arrives 0 1 1000 1 = wrong
            arrives 0 1 MIN 1 = wrong
            arrives 0 1 MAX 1 = wrong
            arrives 0 1 1 -1 = wrong
            arrives 0 1 1 2 = wrong
            status 1 = 8
            """);
        Edges.edge("How many K shafts (0 to 9) would bring now (open or not).", """
            on "place 0 0 0 0;mine 0 26 11;mine 0 27 0;"
            digs 0 0 = 0
            digs 0 1 = 3
            digs 0 9 = 26
            digs 1 9 = 27
            digs 0 -1 = wrong
            digs 0 10 = wrong
            digs 1 MIN = wrong
            """);
        Edges.edge("Whether a WANT could be sold now.", """
            on "place 0 2 3 0;want 0 2 1 0;want 0 3 1 0;want 0 5 0 0;want 0 6 0 0;"
            can 0 = yes
            can 1 = no
            can 2 = yes
            can 3 = no
            work "sell 2;" = 1
            can 2 = no
            can 0 = no
            work "month;" = 1
            can 2 = no
            on "place 0 9 0 0;want 0 1 0 0;"
            work "sell 0;" = 1
            can 0 = no
            work "month;" = 1
            can 0 = yes
            """);
    }

    private static void sales() {
        Edges.edge("SALES: 0 worth, 1 which (bits).", """
            on "place 0 9 0 0;"+"want 0 12 0 1;"*11+"want 0 9 0 99;"
            sales 0 = 99
            sales 1 = 2048
            """);
        Edges.edge("of all sets of open WANTS that can be sold now", """
            sales 0 = 0
            sales 1 = 0
            on "place 0 5 0 0;"
            sales 0 = 0
            sales 1 = 0
            on "place 0 5 0 0;want 0 6 0 9;"
            sales 0 = 0
            sales 1 = 0
            on "place 0 5 0 0;want 0 2 0 9;want 0 3 0 8;"
            sales 0 = 17
            sales 1 = 3
            on "place 0 4 0 0;want 0 2 0 9;want 0 3 0 8;"
            sales 0 = 9
            sales 1 = 1
            on "place 0 5 0 0;want 0 2 0 9;want 0 3 0 8;"
            work "sell 0;" = 1
            sales 0 = 8
            sales 1 = 2
            on "place 0 96 0 0;"+"want 0 8 1 99;"*12
            sales 0 = 1188
            sales 1 = 4095
            on "place 0 95 0 0;"+"want 0 8 1 99;"*12
            sales 0 = 1089
            sales 1 = 2047
            on "place 0 99 0 44;leaks 0;"+"want 0 12 1 99;"*12
            work "month;" = 1
            place 0 1 = 143
            sales 0 = 1089
            on "place 0 99 0 45;leaks 0;"+"want 0 12 1 99;"*12
            work "month;" = 1
            sales 0 = 1188
            sales 1 = 4095
            """);
        Edges.edge("(each PLACE by itself: those of good ones alone, and the others, by what is there)", """
            on "place 0 0 0 0;place 0 99 99 0;want 0 1 0 9;"
            sales 0 = 0
            on "place 0 3 2 0;want 0 3 1 9;want 0 2 0 8;"
            sales 0 = 17
            sales 1 = 3
            on "place 0 3 2 0;want 0 3 1 9;want 0 3 0 8;"
            sales 0 = 9
            sales 1 = 1
            on "place 0 3 2 0;want 0 4 1 9;want 0 5 0 8;"
            sales 0 = 8
            sales 1 = 2
            on "place 0 3 9 0;want 0 2 1 9;want 0 2 1 8;want 0 9 0 1;"
            sales 0 = 10
            sales 1 = 5
            on "place 0 0 9 0;want 0 1 1 9;want 0 9 0 1;"
            sales 0 = 1
            sales 1 = 2
            on "place 0 2 0 0;place 0 0 2 0;want 1 2 0 5;want 0 2 1 6;"
            sales 0 = 11
            sales 1 = 3
            """);
        Edges.edge("that of the most worth; of alike ones the least bits", """
            on "place 0 9 0 0;want 0 1 0 0;"
            sales 0 = 0
            sales 1 = 0
            on "place 0 2 0 0;want 0 2 0 5;want 0 1 0 2;want 0 1 0 3;"
            sales 0 = 5
            sales 1 = 1
            on "place 0 2 0 0;want 0 1 0 2;want 0 1 0 3;want 0 2 0 5;"
            sales 0 = 5
            sales 1 = 3
            on "place 0 2 0 0;want 0 1 0 2;want 0 1 0 3;want 0 2 0 6;"
            sales 0 = 6
            sales 1 = 4
            on "place 0 1 0 0;place 0 1 0 0;want 1 1 0 5;want 0 1 0 5;want 1 1 0 5;want 0 1 0 5;"
            sales 0 = 10
            sales 1 = 3
            """);
    }

    private static void more() {
        Edges.edge("SALES, were a PLACE to have n more good hours (0 to 99): worth.", """
            on "place 0 0 0 0;place 0 1 0 0;"+"want 0 9 1 7;"*11+"want 1 2 0 3;"
            more 0 0 = 0
            more 0 8 = 0
            more 0 9 = 7
            more 0 98 = 70
            more 0 99 = 77
            more 1 0 = 0
            more 1 1 = 3
            more 0 -1 = wrong
            more 0 100 = wrong
            more 1 MAX = wrong
            place 0 1 = 0
            """);
    }

    private static void brings() {
        Edges.edge("the number of good hours (0 to all) by which SALES behind it are worth most, of these the least.", """
            on "place 0 0 9 0;place 0 0 0 0;want 1 1 0 9;"
            brings 0 1 0 = 0
            brings 0 1 1 = 0
            on "place 0 9 0 0;place 0 0 0 0;want 1 9 1 7;"
            brings 0 1 0 = 9
            brings 0 1 1 = 7
            on "place 0 8 0 0;place 0 0 0 0;want 1 9 1 7;"
            brings 0 1 0 = 0
            brings 0 1 1 = 0
            on "place 0 5 0 0;place 0 0 0 0;want 0 5 0 7;want 1 5 0 7;"
            brings 0 1 0 = 0
            brings 0 1 1 = 7
            on "place 0 5 0 0;place 0 0 0 0;want 0 5 0 7;want 1 5 0 8;"
            brings 0 1 0 = 5
            brings 0 1 1 = 8
            on "place 0 9 0 0;place 0 0 0 0;want 1 5 0 8;"
            law 0 "hours/2+2" = 1
            brings 0 1 0 = 6
            law 0 "7-hours" = 1
            brings 0 1 0 = 0
            brings 0 1 1 = 0
            law 0 "9-hours" = 1
            brings 0 1 0 = 0
            law 0 "10-hours" = 1
            brings 0 1 0 = 5
            brings 0 1 1 = 8
            law 0 "hours*2/(good+1)" = 1
            brings 0 1 0 = 5
            law 0 "hours*good/2+1" = 1
            brings 0 1 0 = 8
            place 0 1 = 9
            place 1 1 = 0
            """);
        Edges.edge("BRINGS: 0 how many hours, 1 what SALES are worth then.", """
            on "place 0 9 0 0;place 20 1 0 0;place 0 3 0 0;want 0 7 0 5;want 1 2 0 6;want 2 3 0 4;"
            brings 0 1 0 = 1
            brings 0 1 1 = 15
            brings 1 0 0 = 0
            brings 1 0 1 = 9
            brings 2 1 0 = 1
            brings 2 1 1 = 11
            """);
        Edges.edge("IllegalArgumentException: one PLACE.", """
            on "place 0 9 0 0;place 0 0 0 0;"
            brings 0 0 0 = wrong
            brings 1 1 1 = wrong
            brings 1 1 9 = wrong
            status 1 = 3
            """);
    }

    private static void price() {
        Edges.edge("the least price (0 to 100) by which all open WANTS there that are worth that much or more want no more"
            + " hours together than there are.", """
            on "place 0 0 0 0;"
            price 0 = 0
            on "place 0 1 1 0;place 0 0 1 0;place 0 0 0 0;want 0 2 1 50;want 1 2 1 50;want 2 1 0 99;"
            price 0 = 0
            price 1 = 51
            price 2 = 100
            on "place 0 0 0 0;want 0 1 0 0;"
            price 0 = 1
            on "place 0 3 0 0;want 0 2 0 10;want 0 2 0 20;want 0 1 0 30;"
            price 0 = 11
            on "place 0 2 0 0;want 0 2 0 10;want 0 2 0 20;want 0 1 0 30;"
            price 0 = 21
            on "place 0 3 0 0;want 0 2 0 10;want 0 2 0 10;"
            price 0 = 11
            on "place 0 4 0 0;want 0 2 0 20;want 0 3 0 10;"
            price 0 = 11
            work "sell 0;" = 1
            price 0 = 11
            on "place 0 5 0 0;want 0 2 0 20;want 0 3 0 10;"
            work "sell 0;" = 1
            price 0 = 0
            """);
    }

    private static void corner() {
        Edges.edge("how many good hours must be taken from a PLACE so that its PRICE is v or more, the fewest.", """
            on "place 0 5 4 0;want 0 6 0 20;want 0 2 0 40;"
            corner 0 0 = 0
            corner 0 1 = 2
            corner 0 21 = 2
            on "place 0 7 0 0;want 0 6 0 20;want 0 2 0 40;"
            price 0 = 21
            corner 0 21 = 0
            corner 0 22 = 6
            corner 0 41 = 6
            on "place 0 0 0 0;want 0 1 0 99;"
            corner 0 100 = 0
            on "place 0 0 0 0;want 0 12 0 99;want 0 12 0 50;"
            corner 0 1 = 0
            corner 0 100 = 0
            on "place 0 3 0 0;want 0 3 0 99;"
            corner 0 100 = 1
            place 0 1 = 3
            """);
        Edges.edge("CORNER by v (0 to 100); NONE: not by all.", """
            on "place 0 3 1 0;want 0 1 0 50;"
            corner 0 0 = 0
            corner 0 1 = -1
            on "place 0 3 0 0;want 0 1 0 50;"
            corner 0 1 = 3
            corner 0 51 = 3
            corner 0 52 = -1
            corner 0 100 = -1
            on "place 0 0 0 0;"
            corner 0 0 = 0
            corner 0 1 = -1
            corner 0 -1 = wrong
            corner 0 101 = wrong
            corner 0 MIN = wrong
            """);
    }

    private static void ahead() {
        Edges.edge("In so many MONTHS (0 to 60), nothing being done: good hours at a PLACE (what 0), watered ones (1).", """
            on "place 0 9 8 4;place 0 99 99 99;leaks 1;"
            ahead 0 0 0 = 9
            ahead 0 0 1 = 8
            ahead 0 1 0 = 12
            ahead 0 1 1 = 7
            ahead 0 60 1 = 7
            ahead 0 -1 0 = wrong
            ahead 0 61 0 = wrong
            ahead 0 MAX 1 = wrong
            ahead 1 60 0 = 792
            on "place 0 99 99 99;leaks 0;"
            ahead 0 9 0 = 990
            ahead 0 10 0 = 999
            ahead 0 60 0 = 999
            ahead 0 60 1 = 99
            on "place 0 99 99 99;leaks 8;"
            ahead 0 60 0 = 99
            ahead 0 1 1 = 0
            told 4 = 0
            place 0 1 = 99
            """);
    }

    private static void chosen() {
        Edges.edge("The PLACE with most hours of both kinds (what 0)", """
            chosen 0 = -1
            on "place 0 0 0 0;place 0 0 0 0;"
            chosen 0 = 0
            on "place 0 5 0 0;place 0 0 6 0;place 0 3 3 0;"
            chosen 0 = 1
            on "place 0 5 0 0;place 0 0 6 0;place 0 4 3 0;"
            chosen 0 = 2
            work "carry 2 0 1 1;carry 2 0 1 0;" = 2
            chosen 0 = 0
            """);
        Edges.edge("the open WANT worth most for an hour (1: V by N; exactly, as fractions); of these the first; NONE.", """
            chosen 1 = -1
            on "place 0 0 0 0;"
            chosen 1 = -1
            on "place 0 9 0 0;want 0 1 0 0;"
            chosen 1 = 0
            work "sell 0;" = 1
            chosen 1 = -1
            work "month;" = 1
            chosen 1 = 0
            on "place 0 99 0 0;want 0 3 0 10;want 0 2 0 7;want 0 12 0 42;want 0 11 0 38;"
            chosen 1 = 1
            work "sell 1;" = 1
            chosen 1 = 2
            work "sell 2;" = 1
            chosen 1 = 3
            on "place 0 0 0 0;want 0 12 0 98;want 0 11 0 90;want 0 12 0 99;"
            chosen 1 = 2
            """);
    }
}
