/** Sentences of the document that name an edge of a text: what a COAST, LAW, WORK or BOOK may be, and the FAULTS. */
public final class EdgesOfTextsTest {
    private EdgesOfTextsTest() {
    }

    public static void main(String[] args) {
        coasts();
        places();
        wants();
        mines();
        moons();
        settings();
        laws();
        lawsOfArriving();
        lawsOfDigging();
        values();
        works();
        agains();
        books();
        signs();
        faults();
        faultsOfTooMany();
        Checks.end();
    }

    private static void coasts() {
        Edges.edge("A COAST is a text of up to 600 bytes", """
            coast " "*586+"place 1 2 3 4;" = 1
            place 0 3 = 4
            coast " "*587+"place 1 2 3 4" = -9
            fault = 600
            feed " "*600 = 600
            coast 601 = wrong
            count 1 = 600
            coast 600 = 0
            """);
        Edges.edge("{ CLAUSE \";\" }, at most 60", """
            coast "" = 0
            coast "   " = 0
            coast "leaks 1;"*60 = 0
            coast "place 0 8 0 0;"+"leaks 1;"*58+"leaks 8;  " = 1
            ahead 0 1 0 = 0
            coast "place 0 8 0 0;"+"leaks 1;"*59+"leaks 0;" = -7
            fault = 486
            ahead 0 1 0 = 0
            coast "leaks 1" = -9
            fault = 7
            coast "leaks 1;;" = -9
            fault = 8
            """);
        Edges.edge("P: told ahead.", """
            coast "want 0 1 0 0;place 0 0 0 0;" = -8
            fault = 5
            coast "mine 0 1 0;place 0 0 0 0;" = -8
            fault = 5
            coast "place 0 0 0 0;want 1 1 0 0;place 0 0 0 0;" = -8
            fault = 19
            coast "place 0 0 0 0;mine 1 1 0;place 0 0 0 0;" = -8
            fault = 19
            told 0 = 0
            coast "place 0 0 0 0;want 0 1 0 0;place 0 0 0 0;want 1 1 0 0;mine 1 1 0;" = 2
            want 0 0 = 0
            want 1 0 = 1
            mine 0 0 = 1
            """);
    }

    private static void places() {
        Edges.edge("PLACES, numbered from 0 on, 6 at most", """
            coast "place 1 0 0 0;place 2 0 0 0;place 3 0 0 0;place 4 0 0 0;place 5 0 0 0;place 6 0 0 0;" = 6
            place 0 0 = 1
            place 5 0 = 6
            place 6 0 = missing
            place -1 0 = missing
            coast "place 9 0 0 0;"*7 = -7
            fault = 84
            told 0 = 6
            place 5 0 = 6
            """);
        Edges.edge("X miles along the coast, 0 to 40", """
            coast "place 0 1 1 1;place 40 1 1 1;" = 2
            place 0 0 = 0
            place 1 0 = 40
            coast "place 41 1 1 1;" = -8
            fault = 6
            place 1 0 = 40
            """);
        Edges.edge("G good and W watered hours are there, D good ones come each MONTH, 0 to 99 each", """
            coast "place 0 0 0 0;place 0 99 99 99;leaks 0;" = 2
            place 0 1 = 0
            place 0 2 = 0
            place 0 3 = 0
            place 1 1 = 99
            place 1 2 = 99
            place 1 3 = 99
            ahead 1 1 0 = 198
            ahead 1 1 1 = 99
            coast "place 0 100 0 0;" = -8
            fault = 8
            coast "place 0 0 100 0;" = -8
            fault = 10
            coast "place 0 0 0 100;" = -8
            fault = 12
            told 0 = 2
            """);
    }

    private static void wants() {
        Edges.edge("WANTS likewise, 12", """
            coast "place 0 0 0 0;"+"want 0 1 0 1;"*11+"want 0 2 0 1;" = 1
            told 1 = 12
            want 0 1 = 1
            want 11 1 = 2
            want 12 1 = missing
            want -1 1 = missing
            coast "place 0 0 0 0;"+"want 0 1 0 1;"*13 = -7
            fault = 170
            told 1 = 12
            want 11 1 = 2
            """);
        Edges.edge("at PLACE P N hours, 1 to 12", """
            on "place 0 0 0 0;place 0 0 0 0;want 1 1 0 0;want 0 12 0 0;"
            want 0 0 = 1
            want 0 1 = 1
            want 1 0 = 0
            want 1 1 = 12
            coast "place 0 0 0 0;want 0 0 0 0;" = -8
            fault = 21
            coast "place 0 0 0 0;want 0 13 0 0;" = -8
            fault = 21
            coast "place 0 0 0 0;want 1 1 0 0;" = -8
            fault = 19
            told 1 = 2
            """);
        Edges.edge("C 1 good ones alone, 0 any", """
            on "place 0 1 9 0;want 0 1 1 5;want 0 2 1 5;want 0 2 0 5;want 0 10 0 5;want 0 11 0 5;"
            want 0 2 = 1
            want 2 2 = 0
            can 0 = yes
            can 1 = no
            can 2 = yes
            can 3 = yes
            can 4 = no
            coast "place 0 0 0 0;want 0 1 2 0;" = -8
            fault = 23
            """);
        Edges.edge("worth V, 0 to 99", """
            on "place 0 9 0 0;want 0 1 0 0;want 0 1 0 99;"
            want 0 3 = 0
            want 1 3 = 99
            work "sell 0;" = 1
            told 5 = 0
            work "sell 1;" = 1
            told 5 = 99
            coast "place 0 0 0 0;want 0 1 0 100;" = -8
            fault = 25
            """);
    }

    private static void mines() {
        Edges.edge("MINES likewise, 3", """
            coast "place 0 0 0 0;mine 0 1 0;mine 0 2 0;mine 0 3 0;" = 1
            told 2 = 3
            mine 0 1 = 1
            mine 2 1 = 3
            mine 3 1 = missing
            mine -1 1 = missing
            coast "place 0 0 0 0;"+"mine 0 1 0;"*4 = -7
            fault = 47
            told 2 = 3
            mine 2 1 = 3
            """);
        Edges.edge("at PLACE P a SEAM of S hours, 0 to 400", """
            on "place 0 0 0 0;place 0 0 0 0;mine 1 0 0;mine 0 400 0;"
            mine 0 0 = 1
            mine 0 1 = 0
            mine 1 0 = 0
            mine 1 1 = 400
            coast "place 0 0 0 0;mine 0 401 0;" = -8
            fault = 21
            coast "place 0 0 0 0;mine 1 0 0;" = -8
            fault = 19
            """);
        Edges.edge("open in MONTHS of a year from A on, 0 to 11", """
            on "place 0 0 0 0;mine 0 9 0;mine 0 9 11;mine 0 9 1;"
            mine 0 2 = 0
            mine 1 2 = 11
            mine 0 3 = 1
            mine 1 3 = 0
            mine 2 3 = 0
            work "month;" = 1
            mine 2 3 = 1
            work "again 9[month;];" = 9
            mine 1 3 = 0
            work "month;" = 1
            mine 0 3 = 1
            mine 1 3 = 1
            mine 2 3 = 1
            work "month;" = 1
            mine 0 3 = 1
            mine 1 3 = 0
            mine 2 3 = 0
            coast "place 0 0 0 0;mine 0 0 12;" = -8
            fault = 23
            """);
    }

    private static void moons() {
        Edges.edge("(MOONS, 3", """
            coast "moon 1 0;moon 2 0;moon 3 0;" = 0
            told 3 = 3
            moons 0 = 7
            moons 4 = 3
            coast "moon 1 0;"*4 = -7
            fault = 27
            told 3 = 3
            """);
        Edges.edge("on DAYS that leave R by N, N 1 to 30, R less than N", """
            on "moon 1 0;moon 30 29;moon 30 0;"
            moons 0 = 5
            moons 1 = 1
            moons 28 = 1
            moons 29 = 3
            moons 30 = 5
            moons 59 = 3
            moons 9989 = 3
            coast "moon 0 0;" = -8
            fault = 5
            coast "moon 31 0;" = -8
            fault = 5
            coast "moon 30 30;" = -8
            fault = 8
            coast "moon 1 1;" = -8
            fault = 7
            told 3 = 3
            """);
    }

    private static void settings() {
        Edges.edge("\"leaks\" L (0 to 8 of 8; 1 without; the last counts)", """
            coast "place 0 16 8 0;leaks 0;" = 1
            ahead 0 1 0 = 16
            ahead 0 1 1 = 8
            coast "place 0 16 8 0;leaks 8;" = 1
            ahead 0 1 0 = 0
            ahead 0 1 1 = 0
            coast "place 0 16 8 0;" = 1
            ahead 0 1 0 = 14
            ahead 0 1 1 = 7
            coast "leaks 8;place 0 16 8 0;leaks 4;leaks 2;" = 1
            ahead 0 1 0 = 12
            ahead 0 1 1 = 6
            coast "place 0 16 8 0;leaks 9;" = -8
            fault = 21
            ahead 0 1 0 = 12
            """);
        Edges.edge("\"shaft\" C (0 to 99 pence for each; 3 without; the last counts)", """
            coast "place 0 0 0 0;mine 0 9 0;shaft 0;" = 1
            work "dig 0 2;" = 1
            told 5 = 0
            coast "place 0 0 0 0;mine 0 9 0;shaft 99;" = 1
            work "dig 0 2;" = 1
            told 5 = -198
            coast "place 0 0 0 0;mine 0 9 0;" = 1
            work "dig 0 2;" = 1
            told 5 = -6
            coast "shaft 99;place 0 0 0 0;mine 0 9 0;shaft 0;shaft 5;" = 1
            work "dig 0 2;" = 1
            told 5 = -10
            coast "shaft 100;" = -8
            fault = 6
            told 5 = -10
            """);
    }

    private static void laws() {
        Edges.edge("A LAW is a text of up to 150 bytes", """
            on "place 0 0 0 0;place 7 0 0 0;"
            law 0 " "*149+"7" = 1
            arrives 0 1 99 1 = 7
            law 0 "2+"*74+"2 " = 1
            arrives 0 1 999 1 = 150
            law 0 "1+"*74+"1 " = 1
            arrives 0 1 99 1 = 75
            law 0 " "*150 = -9
            fault = 150
            feed " "*160 = 160
            law 0 151 = wrong
            law 1 151 = wrong
            count 1 = 160
            law 1 150 = -9
            arrives 0 1 99 1 = 75
            """);
        Edges.edge("E, at the end nothing more.", """
            on "place 0 0 0 0;place 7 0 0 0;"
            law 0 "5" = 1
            law 0 "1 1" = -9
            fault = 2
            law 0 "1;" = -9
            fault = 1
            law 0 "1 )" = -9
            fault = 2
            law 0 "1,2" = -9
            fault = 1
            arrives 0 1 99 1 = 5
            law 0 "1   " = 1
            arrives 0 1 99 1 = 1
            """);
        Edges.edge("E: T { + or - T }.", """
            on "place 0 0 0 0;place 7 0 0 0;"
            law 0 "+1" = -9
            fault = 0
            law 0 "-1" = -9
            fault = 0
            law 0 "1-" = -9
            fault = 2
            law 0 "1+-1" = -9
            fault = 2
            law 0 "7-2-1" = 1
            arrives 0 1 99 1 = 4
            law 0 "7-2+1" = 1
            arrives 0 1 99 1 = 6
            """);
        Edges.edge("T: U { * or / U }.", """
            on "place 0 0 0 0;place 7 0 0 0;"
            law 0 "*1" = -9
            fault = 0
            law 0 "1/" = -9
            fault = 2
            law 0 "2+3*4" = 1
            arrives 0 1 99 1 = 14
            law 0 "2*3+4" = 1
            arrives 0 1 99 1 = 10
            law 0 "100/7/2" = 1
            arrives 0 1 99 1 = 7
            law 0 "7/2*2" = 1
            arrives 0 1 99 1 = 6
            """);
        Edges.edge("U: N (0 to 999)", """
            on "place 0 0 0 0;place 7 0 0 0;"
            law 0 "999" = 1
            arrives 0 1 999 1 = 999
            law 0 "0" = 1
            arrives 0 1 999 1 = 0
            law 0 "1000" = -8
            fault = 0
            law 0 "1+1000" = -8
            fault = 2
            law 0 "least[1,1000]" = -8
            fault = 8
            """);
        Edges.edge("\"least\" \"[\" E \",\" E \"]\", \"most\" \"[\" E \",\" E \"]\", or \"(\" E \")\"", """
            on "place 0 0 0 0;place 7 0 0 0;"
            law 0 "least[9,4]*10+least[4,9]" = 1
            arrives 0 1 99 1 = 44
            law 0 "most[9,4]*10+most[4,9]" = 1
            arrives 0 1 99 1 = 99
            law 0 "least[5,5]+most[6,6]" = 1
            arrives 0 1 99 1 = 11
            law 0 "(2+3)*4" = 1
            arrives 0 1 99 1 = 20
            law 0 "least[]" = -9
            fault = 6
            law 0 "least[1]" = -9
            fault = 7
            law 0 "most[1,2,3]" = -9
            fault = 8
            law 0 "least(1,2)" = -9
            fault = 5
            law 0 "most" = -9
            fault = 4
            law 0 "()" = -9
            fault = 1
            law 0 "(1]" = -9
            fault = 2
            arrives 0 1 99 1 = 20
            """);
    }

    private static void lawsOfArriving() {
        Edges.edge("ARRIVE (without: hours - hours * far / 40)", """
            on "place 0 0 0 0;place 40 0 0 0;place 39 0 0 0;place 0 0 0 0;place 1 0 0 0;"
            arrives 0 1 999 1 = 0
            arrives 1 0 1 0 = 0
            arrives 0 2 999 1 = 25
            arrives 0 2 1 0 = 1
            arrives 2 0 40 1 = 1
            arrives 0 3 999 0 = 999
            arrives 0 4 39 1 = 39
            arrives 0 4 40 1 = 39
            arrives 1 2 999 0 = 975
            """);
        Edges.edge("of hours that are carried, 0 at least, all at most.", """
            on "place 0 9 0 0;place 7 0 0 0;"
            law 0 "0-1" = 1
            arrives 0 1 9 1 = 0
            law 0 "10" = 1
            arrives 0 1 0 1 = 0
            arrives 0 1 9 1 = 9
            arrives 0 1 10 1 = 10
            arrives 0 1 11 1 = 10
            work "carry 0 1 9 1;" = 1
            place 1 1 = 9
            law 0 "0-999*999*999" = 1
            work "carry 1 0 9 1;" = 1
            place 0 1 = 0
            """);
        Edges.edge("\"hours\" (that are carried; 0 for DIG)", """
            on "place 0 0 0 0;place 7 0 0 0;mine 0 400 0;"
            law 0 "hours" = 1
            arrives 0 1 0 1 = 0
            arrives 0 1 999 1 = 999
            law 1 "5+hours" = 1
            digs 0 9 = 5
            """);
        Edges.edge("\"far\" (miles; 0)", """
            on "place 33 0 0 0;place 40 0 0 0;place 33 0 0 0;mine 0 400 0;"
            law 0 "far" = 1
            arrives 0 1 99 1 = 7
            arrives 1 0 99 0 = 7
            arrives 0 2 99 1 = 0
            law 1 "5+far" = 1
            digs 0 9 = 5
            """);
        Edges.edge("\"good\" (1, if they are good, else 0; 1 for DIG)", """
            on "place 0 0 0 0;place 7 0 0 0;mine 0 400 0;"
            law 0 "5+good" = 1
            arrives 0 1 99 1 = 6
            arrives 0 1 99 0 = 5
            law 1 "5+good" = 1
            digs 0 9 = 6
            """);
    }

    private static void lawsOfDigging() {
        Edges.edge("DIG (without: shafts * 3)", """
            on "place 0 0 0 0;mine 0 400 0;"
            digs 0 1 = 3
            digs 0 9 = 27
            digs 0 0 = 0
            """);
        Edges.edge("hours that come out of a SEAM, 0 at least, what is left at most", """
            on "place 0 0 0 0;mine 0 5 0;mine 0 0 0;mine 0 6 0;"
            digs 0 2 = 5
            digs 2 2 = 6
            digs 1 1 = 0
            law 1 "0-1" = 1
            digs 0 1 = 0
            law 1 "left+1" = 1
            digs 0 1 = 5
            digs 1 9 = 0
            law 1 "left-1" = 1
            digs 0 1 = 4
            digs 1 9 = 0
            """);
        Edges.edge("(0 by no shafts, whatever it tells)", """
            on "place 0 0 0 0;mine 0 400 0;"
            law 1 "5+shafts" = 1
            digs 0 0 = 0
            digs 0 1 = 6
            """);
        Edges.edge("\"shafts\" (0 for ARRIVE)", """
            on "place 0 0 0 0;place 7 0 0 0;mine 0 400 0;"
            law 1 "shafts" = 1
            digs 0 1 = 1
            digs 0 9 = 9
            law 0 "5+shafts" = 1
            arrives 0 1 99 1 = 5
            """);
        Edges.edge("\"left\" (in the SEAM; 0)", """
            on "place 0 0 0 0;place 7 0 0 0;mine 0 400 0;mine 0 0 0;"
            law 1 "left" = 1
            digs 0 1 = 400
            digs 1 1 = 0
            work "dig 0 1;" = 1
            digs 0 1 = 0
            law 0 "5+left" = 1
            arrives 0 1 99 1 = 5
            """);
        Edges.edge("\"month\" (of the year, 0 to 11), \"year\"", """
            on "place 0 0 0 0;place 7 0 0 0;mine 0 400 0;"
            law 0 "month*20+year+3" = 1
            law 1 "month*20+year+3" = 1
            arrives 0 1 999 1 = 3
            digs 0 1 = 3
            work "again 11[month;];" = 11
            arrives 0 1 999 1 = 223
            digs 0 1 = 223
            work "month;" = 1
            arrives 0 1 999 1 = 4
            digs 0 1 = 4
            work "again 11[month;];" = 11
            arrives 0 1 999 1 = 224
            work "month;" = 1
            arrives 0 1 999 1 = 5
            digs 0 1 = 5
            """);
    }

    private static void values() {
        // 512 * 512 * 512 * 16 is 2 to the 31st.
        Edges.edge("Values are whole numbers of 32 bits that wrap", """
            on "place 0 0 0 0;place 7 0 0 0;"
            law 0 "512*512*512*16" = 1
            arrives 0 1 99 1 = 0
            law 0 "(512*512*512*16-1)/(512*512*512)" = 1
            arrives 0 1 99 1 = 15
            law 0 "512*512*512*32+7" = 1
            arrives 0 1 99 1 = 7
            law 0 "512*512*512*8+512*512*512*8+512*512*512*16+9" = 1
            arrives 0 1 99 1 = 9
            law 0 "(0-512*512*512*16)/(512*512*512)+30" = 1
            arrives 0 1 99 1 = 14
            law 0 "30+512*512*512*16/(0-1)/(512*512*512)" = 1
            arrives 0 1 99 1 = 14
            """);
        Edges.edge("/ cuts, by 0 it is 0", """
            on "place 0 0 0 0;place 7 0 0 0;"
            law 0 "7/2" = 1
            arrives 0 1 99 1 = 3
            law 0 "10+(0-7)/2" = 1
            arrives 0 1 99 1 = 7
            law 0 "10+7/(0-2)" = 1
            arrives 0 1 99 1 = 7
            law 0 "5+9/0" = 1
            arrives 0 1 99 1 = 5
            law 0 "5+9/(3-3)*7" = 1
            arrives 0 1 99 1 = 5
            law 0 "5+0/0" = 1
            arrives 0 1 99 1 = 5
            law 0 "5+hours/far" = 1
            arrives 0 1 99 1 = 19
            on "place 7 0 0 0;place 7 0 0 0;"
            law 0 "5+hours/far" = 1
            arrives 0 1 99 1 = 5
            """);
    }

    private static void works() {
        Edges.edge("WORK is a text of up to 150 bytes: { STEP \";\" }.", """
            work "" = 0
            work "  " = 0
            work "month;"*25 = 25
            work " "*144+"month;" = 1
            told 4 = 26
            feed " "*160 = 160
            work 151 = wrong
            count 1 = 160
            work 150 = 0
            work "month" = -9
            fault = 5
            work "month;;" = -9
            fault = 6
            """);
        Edges.edge("\"carry\" P Q N C (N 1 to 99; Q not P; C 0, 1)", """
            on "place 0 99 99 0;place 0 0 0 0;"
            work "carry 0 1 1 0;carry 0 1 98 0;carry 0 1 99 1;" = 3
            place 0 1 = 0
            place 0 2 = 0
            place 1 1 = 99
            place 1 2 = 99
            work "carry 0 1 0 1;" = -8
            fault = 10
            work "carry 0 1 100 1;" = -8
            fault = 10
            work "carry 0 1 1 2;" = -8
            fault = 12
            work "carry 0 0 1 1;" = -8
            fault = 8
            work "carry 1 01 1 1;" = -8
            fault = 8
            work "carry 2 0 1 1;" = -8
            fault = 6
            work "carry 0 2 1 1;" = -8
            fault = 8
            """);
        Edges.edge("\"sell\" I", """
            on "place 0 9 0 0;want 0 1 0 1;want 0 1 0 1;"
            work "sell 0;sell 1;" = 2
            work "sell 2;" = -8
            fault = 5
            work "sell;" = -9
            fault = 4
            coast "place 0 9 0 0;" = 1
            work "sell 0;" = -8
            fault = 5
            """);
        Edges.edge("\"water\" P N (1 to 99)", """
            on "place 0 99 0 0;place 0 99 0 0;"
            work "water 0 1;water 1 99;" = 2
            place 0 2 = 2
            place 1 2 = 198
            work "water 0 0;" = -8
            fault = 8
            work "water 0 100;" = -8
            fault = 8
            work "water 2 1;" = -8
            fault = 6
            coast "" = 0
            work "water 0 1;" = -8
            fault = 6
            """);
        Edges.edge("\"dig\" M K (1 to 9)", """
            on "place 0 0 0 0;mine 0 400 0;"
            work "dig 0 1;dig 0 9;" = 2
            mine 0 4 = 30
            work "dig 0 0;" = -8
            fault = 6
            work "dig 0 10;" = -8
            fault = 6
            work "dig 1 1;" = -8
            fault = 4
            coast "place 0 0 0 0;" = 1
            work "dig 0 1;" = -8
            fault = 4
            """);
    }

    private static void agains() {
        Edges.edge("\"again\" N \"[\" { STEP \";\" } \"]\" (N 0 to 20)", """
            work "again 0[month;];" = 0
            told 4 = 0
            work "again 20[month;];" = 20
            work "again 1[];" = 0
            work "again 20[];month;" = 1
            told 4 = 21
            work "again 21[];" = -8
            fault = 6
            work "again [];" = -9
            fault = 6
            work "again 2 month;];" = -9
            fault = 8
            work "again 2[month];" = -9
            fault = 13
            work "again 2[month;" = -9
            fault = 14
            work "again 2[month;]" = -9
            fault = 15
            work "];" = -9
            fault = 0
            told 4 = 21
            """);
    }

    private static void books() {
        Edges.edge("A BOOK is one of up to 100 bytes: { P N \";\" }", """
            on "place 0 0 0 0;place 0 0 0 0;"
            book "" = 0
            book " "*96+"0 2;" = 1
            told 8 = 1
            feed " "*120 = 120
            book 101 = wrong
            count 1 = 120
            told 8 = 1
            book 100 = 0
            told 8 = 0
            book "0 2" = -9
            fault = 3
            book "0 2;;" = -9
            fault = 4
            """);
        Edges.edge("6 lines at most, no P twice", """
            on "place 0 0 0 0;"*6
            book "0 0;1 0;2 0;3 0;4 0;5 0;" = 6
            told 8 = 6
            book "0 1;1 1;2 1;3 1;4 1;5 1;0 1;" = -8
            fault = 24
            book "0 1;1 1;0 1;" = -8
            fault = 8
            book "0 1; 00 1;" = -8
            fault = 5
            told 8 = 6
            leaky 0 = 1
            """);
        Edges.edge("at PLACE P N hours are missing (0 to 99)", """
            on "place 0 0 0 0;place 0 0 0 0;"
            book "0 0;1 99;" = 2
            book "0 100;" = -8
            fault = 2
            book "2 1;" = -8
            fault = 0
            told 8 = 2
            coast "" = 0
            book "0 1;" = -8
            fault = 0
            """);
    }

    private static void signs() {
        Edges.edge("Numbers: digits, as many as stand there", """
            on "place 0 0 0 0;place 7 0 0 0;"
            coast "place 0000000000000000000000000000000000000040 0 0 0;" = 1
            place 0 0 = 40
            coast "place 4294967296 0 0 0;" = -8
            fault = 6
            coast "place 18446744073709551616 0 0 0;" = -8
            fault = 6
            coast "place "+"9"*500+" 0 0 0;" = -8
            fault = 6
            coast "place 1234;" = -8
            fault = 6
            coast "place 12 3 4;" = -9
            fault = 12
            coast "place 0 0 0 0;place 7 0 0 0;" = 2
            law 0 "0"*149+"7" = 1
            arrives 0 1 99 1 = 7
            """);
        Edges.edge("WORDS: small letters, as many as stand there", """
            on "place0 0 0 0;place 0 0 0 0;"
            told 0 = 2
            coast "placeplace 0 0 0 0;" = -9
            fault = 0
            coast "place 0 0 0 0;Want 0 1 0 0;" = -9
            fault = 14
            coast "plac 0 0 0 0;" = -9
            fault = 0
            coast "glace 0 0 0 0;" = -9
            fault = 0
            coast "plaza 0 0 0 0;" = -9
            fault = 0
            coast "place 0 0 0 0;"+"a"*500 = -9
            fault = 14
            work "monthmonth;" = -9
            fault = 0
            work "again2[month;];" = 2
            law 0 "hoursfar" = -9
            fault = 0
            law 0 "hours0" = -9
            fault = 5
            law 0 "leasts[1,2]" = -9
            fault = 0
            """);
        Edges.edge("blanks (32) may stand ahead of all these, and at the end.", """
            coast "  place  1  2  3  4  ;  place  2  0  0  0  ;  moon  3  2  ;  " = 2
            place 0 3 = 4
            law 0 "  hours  *  (  2  +  least  [  1  ,  2  ]  )  /  9  -  1  " = 1
            arrives 0 1 99 1 = 32
            work "  again  2  [  month  ;  ]  ;  " = 2
            book "  0  2  ;  " = 1
            coast "pla ce 0 0 0 0;" = -9
            fault = 0
            coast "place 0 0 0 4 0;" = -9
            fault = 14
            coast "place"+#9+"0 0 0 0;" = -9
            fault = 5
            coast "place 0 0 0 0;"+#0 = -9
            fault = 14
            coast "place 0 0 0 0;"+#10 = -9
            fault = 14
            coast "place"+#160+"0 0 0 0;" = -9
            fault = 5
            """);
    }

    private static void faults() {
        Edges.edge("FAULTS, the first from the left, at its first byte", """
            coast "place 41 100 x" = -8
            fault = 6
            coast "place x 100" = -9
            fault = 6
            coast "place 1  100 x" = -8
            fault = 9
            coast "  plaze 41" = -9
            fault = 2
            coast "place 0 0 0 0;want 1 0 2 100" = -8
            fault = 19
            law 0 "1000+x" = -8
            fault = 0
            law 0 "x+1000" = -9
            fault = 0
            book "0 100;" = -8
            fault = 0
            """);
        Edges.edge("1 what can't stand there (at the length, if the text ends too early)", """
            coast ";" = -9
            fault = 0
            coast "place 1 2 3 4" = -9
            fault = 13
            coast "place 1 2 3 4  " = -9
            fault = 15
            coast "place" = -9
            fault = 5
            coast "place 1 2 3 4;want" = -9
            fault = 18
            feed "place 1 2 3 4;" = 20
            coast 13 = -9
            fault = 13
            law 0 "" = -9
            fault = 0
            law 1 "1+" = -9
            fault = 2
            law 0 "(1 " = -9
            fault = 3
            law 0 "least[1,2" = -9
            fault = 9
            work "month;month" = -9
            fault = 11
            work "again 2[" = -9
            fault = 8
            coast "place 0 0 0 0;" = 1
            book "0" = -9
            fault = 1
            book "0 1 " = -9
            fault = 4
            """);
        Edges.edge("2 a number that is none such (also Q as P, a P twice)", """
            on "place 0 0 0 0;place 0 0 0 0;"
            coast "leaks 9;" = -8
            fault = 6
            law 0 "1+1000" = -8
            fault = 2
            work "carry 0 0 1 1;" = -8
            fault = 8
            work "carry 1 1 100 2;" = -8
            fault = 8
            book "1 1;1 1;" = -8
            fault = 4
            work "month;again 21[x" = -8
            fault = 12
            """);
    }

    private static void faultsOfTooMany() {
        Edges.edge("3 a CLAUSE, PLACE, WANT, MINE, MOON (at its word) or line (at its P) too many", """
            coast "leaks 1;"*60+" shaft 1;" = -7
            fault = 481
            coast "place 0 0 0 0;"*6+" place 99" = -7
            fault = 85
            coast "place 0 0 0 0;"+"want 0 1 0 1;"*12+"  want" = -7
            fault = 172
            coast "place 0 0 0 0;"+"mine 0 1 0;"*3+" mine 9" = -7
            fault = 48
            coast "moon 1 0;"*3+" moon 0" = -7
            fault = 28
            coast "place 0 0 0 0;"*6 = 6
            book "0 1;1 1;2 1;3 1;4 1;5 1; 5 1;" = -8
            fault = 25
            """);
        Edges.edge("or a 7th of ( least most again that is open at one time", """
            on "place 0 0 0 0;place 7 0 0 0;"
            law 0 "((((((1))))))+((((((2))))))" = 1
            arrives 0 1 99 1 = 3
            law 0 "(((((((1)))))))" = -7
            fault = 6
            law 0 "least[most[least[most[least[most[1,2],3],4],5],6],7]" = 1
            arrives 0 1 99 1 = 6
            law 0 "(((((( least[1,2]" = -7
            fault = 7
            law 0 "(((((( most" = -7
            fault = 7
            law 0 "least[((((((1" = -7
            fault = 11
            law 0 "most[1,((((((1" = -7
            fault = 12
            law 0 "(((((least[1,2]+(3)+most[4,5]+hours)))))" = 1
            arrives 0 1 99 1 = 99
            work "again 1["*6+"month;"+"];"*6 = 1
            work "again 1["*7 = -7
            fault = 48
            work "again 0["*6+" again" = -7
            fault = 49
            work "again 1[again 1[];];"*7 = 0
            told 4 = 1
            """);
        Edges.edge("of one the least.", """
            coast "leaks 1;"*60+"leak 1;" = -9
            fault = 480
            coast "leaks 1;"*60+"1;" = -9
            fault = 480
            coast "place 0 0 0 0;"*6+"places" = -9
            fault = 84
            law 0 "((((((lest" = -9
            fault = 6
            work "again 1["*6+"agains" = -9
            fault = 48
            coast "place 0 0 0 0;"*6 = 6
            book "0 1;1 1;2 1;3 1;4 1;5 1;6 1;" = -8
            fault = 24
            book "0 1;1 1;2 1;3 1;4 1;5 1;x" = -9
            fault = 24
            """);
    }
}
