/** Sentences of the document that name an edge of what WORK does: the STEPS, how many, what is REFUSED, undo. */
public final class EdgesOfWorkTest {
    private EdgesOfWorkTest() {
    }

    public static void main(String[] args) {
        beginnings();
        stepsInOrder();
        twoHundred();
        carrying();
        selling();
        watering();
        digging();
        months();
        noMoreThan999();
        answers();
        sixteenWorks();
        undoing();
        Checks.end();
    }

    private static void beginnings() {
        Edges.edge("It is MONTH 0 at first (of year 0), all WANTS are open, no pence.", """
            told 4 = 0
            told 5 = 0
            on "place 0 9 0 0;place 0 0 0 0;want 0 1 0 7;want 0 1 0 7;"
            law 0 "5+month+year" = 1
            arrives 0 1 99 1 = 5
            told 4 = 0
            told 5 = 0
            want 0 4 = 1
            want 1 4 = 1
            work "again 12[month;];sell 1;" = 13
            told 4 = 12
            told 5 = 7
            want 1 4 = 0
            coast "place 0 9 0 0;place 0 0 0 0;want 0 1 0 7;want 0 1 0 7;" = 2
            told 4 = 0
            told 5 = 0
            want 1 4 = 1
            want 1 5 = 0
            """);
    }

    private static void stepsInOrder() {
        Edges.edge("STEPS are done in order", """
            on "place 0 2 0 0;want 0 2 1 7;"
            work "water 0 1;sell 0;" = 1
            told 5 = 0
            undo = 0
            work "sell 0;water 0 1;" = 1
            told 5 = 7
            on "place 0 2 0 0;want 0 2 1 7;"
            work "again 1[sell 0;];water 0 1;" = 1
            told 5 = 7
            """);
        Edges.edge("one that can't be done is REFUSED, and changes nothing", """
            on "place 0 8 4 5;place 3 2 1 0;want 0 9 1 7;want 1 4 0 7;mine 1 30 1;mine 1 0 0;"
            work "carry 0 1 9 1;carry 0 1 5 0;carry 1 0 99 1;sell 0;sell 1;water 0 9;dig 0 1;dig 1 1;" = 0
            told 9 = 8
            told 4 = 0
            told 5 = 0
            place 0 1 = 8
            place 0 2 = 4
            place 0 4 = 0
            place 1 1 = 2
            place 1 2 = 1
            place 1 4 = 0
            want 0 4 = 1
            want 0 5 = 0
            want 1 4 = 1
            want 1 5 = 0
            mine 0 1 = 30
            mine 0 4 = 0
            mine 1 4 = 0
            count 2 = 1
            """);
    }

    private static void twoHundred() {
        // An again and 19 times (an again and 9 months) are 191.
        Edges.edge("200 STEPS at most are begun by one WORK", """
            work "again 19[again 9[month;];];again 7[month;];month;" = 179
            told 4 = 179
            undo = 0
            work "again 19[again 9[month;];];again 8[month;];month;" = 179
            told 4 = 179
            undo = 0
            work "again 19[again 9[month;];];again 9[month;];" = 179
            told 4 = 179
            work "month;" = 1
            told 4 = 180
            """);
        Edges.edge("(an again, too, each time it is come to; REFUSED ones, too)", """
            on "place 0 0 0 0;want 0 1 0 1;"
            work "again 20[again 8[again 0[];];];again 18[month;];" = 18
            undo = 0
            work "again 20[again 8[again 0[];];];again 19[month;];" = 18
            undo = 0
            work "again 20[again 9[again 0[month;];];];month;" = 0
            told 4 = 0
            undo = 0
            work "again 19[again 9[sell 0;];];again 7[sell 0;];month;" = 1
            told 9 = 178
            undo = 0
            work "again 19[again 9[sell 0;];];again 8[sell 0;];month;" = 0
            told 9 = 179
            """);
        Edges.edge("what would come behind is left out.", """
            on "place 0 0 0 0;want 0 1 0 1;"
            work "again 20[again 20[month;sell 0;];];month;" = 97
            told 4 = 97
            told 9 = 97
            count 2 = 1
            """);
    }

    private static void carrying() {
        Edges.edge("N good (C 1) or watered hours leave P (REFUSED, if there are fewer)", """
            on "place 0 5 3 0;place 0 0 0 0;"
            work "carry 0 1 6 1;carry 0 1 4 0;" = 0
            told 9 = 2
            work "carry 0 1 5 1;" = 1
            place 0 1 = 0
            place 0 2 = 3
            place 1 1 = 5
            place 1 2 = 0
            work "carry 0 1 3 0;" = 1
            place 0 2 = 0
            place 1 2 = 3
            work "carry 0 1 1 1;carry 0 1 1 0;" = 0
            """);
        Edges.edge("so many as ARRIVE tells come to Q.", """
            on "place 0 40 40 0;place 40 0 0 0;place 1 0 0 0;"
            work "carry 0 1 10 1;" = 1
            place 0 1 = 30
            place 1 1 = 0
            told 6 = 30
            work "carry 0 2 30 1;carry 0 2 40 0;" = 2
            place 2 1 = 30
            place 2 2 = 39
            law 0 "hours/2+good" = 1
            work "carry 2 0 30 1;carry 2 0 39 0;" = 2
            place 0 1 = 16
            place 0 2 = 19
            place 0 4 = 0
            """);
    }

    private static void selling() {
        Edges.edge("sell: WANT I has its hours from its PLACE", """
            on "place 0 9 9 0;place 0 3 0 0;want 1 3 0 1;want 1 1 0 1;"
            work "sell 0;sell 1;" = 1
            told 9 = 1
            place 0 1 = 9
            place 0 2 = 9
            place 1 1 = 0
            """);
        Edges.edge("good ones alone (C 1), else watered ones first", """
            on "place 0 9 3 0;want 0 3 0 1;want 0 4 1 1;want 0 5 0 1;"
            work "sell 0;" = 1
            place 0 1 = 9
            place 0 2 = 0
            undo = 0
            work "sell 1;" = 1
            place 0 1 = 5
            place 0 2 = 3
            work "sell 2;" = 1
            place 0 1 = 3
            place 0 2 = 0
            """);
        Edges.edge("V pence are paid, it is open no more (REFUSED, if it is not open, or there are too few).", """
            on "place 0 4 2 0;want 0 4 1 9;want 0 5 1 9;want 0 6 0 8;want 0 7 0 8;"
            work "sell 1;sell 3;" = 0
            told 9 = 2
            told 5 = 0
            work "sell 2;" = 1
            told 5 = 8
            told 6 = 0
            told 7 = 0
            want 2 4 = 0
            undo = 1
            work "sell 0;" = 1
            told 5 = 9
            want 0 4 = 0
            want 0 5 = 1
            work "month;month;" = 2
            want 0 4 = 1
            on "place 0 99 99 0;want 0 1 1 9;want 0 1 0 8;"
            work "sell 0;sell 1;sell 0;sell 1;" = 2
            told 9 = 2
            told 5 = 17
            told 6 = 98
            told 7 = 98
            want 0 5 = 1
            want 1 5 = 1
            """);
    }

    private static void watering() {
        Edges.edge("N good hours of P become two times as many watered ones (REFUSED, if there are fewer).", """
            on "place 0 7 1 0;"
            work "water 0 8;" = 0
            told 9 = 1
            work "water 0 7;" = 1
            place 0 1 = 0
            place 0 2 = 15
            work "water 0 1;" = 0
            place 0 2 = 15
            """);
    }

    private static void digging() {
        Edges.edge("C pence each are paid out (pence may be below 0)", """
            on "place 0 0 0 0;mine 0 400 0;shaft 7;"
            work "dig 0 1;" = 1
            told 5 = -7
            work "dig 0 9;" = 1
            told 5 = -70
            law 1 "0" = 1
            work "dig 0 2;" = 1
            told 5 = -84
            mine 0 4 = 30
            """);
        Edges.edge("so many good hours as DIG tells come to its PLACE out of its SEAM", """
            on "place 0 0 0 0;place 0 1 1 0;mine 1 7 0;"
            work "dig 0 2;" = 1
            place 1 1 = 7
            place 1 2 = 1
            mine 0 1 = 1
            mine 0 4 = 6
            work "dig 0 9;" = 1
            place 1 1 = 8
            place 0 1 = 0
            mine 0 1 = 0
            mine 0 4 = 7
            """);
        Edges.edge("(REFUSED, if it is not open, or nothing is left)", """
            on "place 0 0 0 0;mine 0 3 1;mine 0 0 0;"
            work "dig 0 1;dig 1 1;" = 0
            told 9 = 2
            told 5 = 0
            work "month;dig 0 1;" = 2
            told 5 = -3
            mine 0 1 = 0
            work "dig 0 1;" = 0
            told 9 = 1
            told 5 = -3
            on "place 0 0 0 0;mine 0 9 11;"
            work "again 11[month;];dig 0 1;month;dig 0 1;" = 13
            told 9 = 1
            mine 0 1 = 6
            """);
    }

    private static void months() {
        Edges.edge("of each PLACE L of 8 (cut) of its good and of its watered hours LEAK, each", """
            on "place 0 7 15 0;place 0 8 16 0;"
            work "month;" = 1
            place 0 1 = 7
            place 0 2 = 14
            place 0 4 = 1
            place 1 1 = 7
            place 1 2 = 14
            place 1 4 = 3
            on "place 0 7 7 0;leaks 4;"
            work "month;" = 1
            place 0 1 = 4
            place 0 2 = 4
            place 0 4 = 6
            on "place 0 7 7 0;leaks 7;"
            work "month;" = 1
            place 0 1 = 1
            place 0 2 = 1
            place 0 4 = 12
            on "place 0 99 99 0;leaks 0;"
            work "month;" = 1
            place 0 4 = 0
            on "place 0 99 99 0;leaks 8;"
            work "month;month;" = 2
            place 0 1 = 0
            place 0 2 = 0
            place 0 4 = 198
            """);
        Edges.edge("then D good ones come", """
            on "place 0 0 0 8;"
            work "month;" = 1
            place 0 1 = 8
            place 0 4 = 0
            work "month;" = 1
            place 0 1 = 15
            place 0 4 = 1
            place 0 2 = 0
            """);
        Edges.edge("all WANTS are open; the MONTH is one more.", """
            on "place 0 99 0 0;want 0 1 0 1;want 0 1 0 1;"
            work "sell 0;sell 1;month;sell 1;" = 4
            want 0 4 = 1
            want 1 4 = 0
            want 1 5 = 2
            told 4 = 1
            """);
    }

    private static void noMoreThan999() {
        Edges.edge("No PLACE holds more than 999 of a kind (what is more is lost).", """
            on "place 0 99 99 99;place 0 99 99 0;mine 0 400 0;leaks 0;"
            work "again 9[month;];" = 9
            place 0 1 = 990
            work "dig 0 3;" = 1
            place 0 1 = 999
            work "dig 0 1;" = 1
            place 0 1 = 999
            mine 0 1 = 388
            mine 0 4 = 12
            work "carry 1 0 1 1;" = 1
            place 0 1 = 999
            place 1 1 = 98
            work "month;" = 1
            place 0 1 = 999
            place 0 4 = 0
            work "again 4[water 0 99;];" = 4
            place 0 1 = 603
            place 0 2 = 891
            work "carry 1 0 99 0;" = 1
            place 0 2 = 990
            work "water 0 4;" = 1
            place 0 2 = 998
            work "water 0 1;" = 1
            place 0 2 = 999
            place 0 1 = 598
            work "carry 0 1 99 0;carry 1 0 98 0;carry 1 0 1 0;water 0 1;" = 4
            place 0 2 = 999
            place 0 4 = 0
            on "place 0 99 0 99;place 0 0 0 0;leaks 0;want 0 12 1 9;want 1 12 1 8;"
            work "again 10[month;];" = 10
            place 0 1 = 999
            ahead 0 1 0 = 999
            sales 0 = 9
            more 0 99 = 9
            more 1 12 = 17
            brings 0 1 0 = 12
            brings 0 1 1 = 17
            price 0 = 0
            corner 0 10 = 988
            arrives 0 1 999 1 = 999
            """);
    }

    private static void answers() {
        Edges.edge("Likewise WORK (n to 150), which is done", """
            feed "month;month;" = 20
            work -1 = wrong
            work 21 = wrong
            work MIN = wrong
            work MAX = wrong
            count 1 = 20
            work 6 = 1
            count 1 = 0
            told 4 = 1
            work 1 = wrong
            work 0 = 0
            count 2 = 2
            feed "month;"*25+" " = 160
            work 151 = wrong
            work 150 = 25
            status 1 = 6
            """);
        Edges.edge("how many STEPS were done (agains not counted, nor REFUSED ones)", """
            on "place 0 0 0 0;want 0 1 0 1;"
            work "" = 0
            work "again 3[];" = 0
            work "sell 0;" = 0
            work "again 3[month;sell 0;];" = 3
            told 9 = 3
            """);
        Edges.edge("or the FAULT less 10 (none is)", """
            on "place 0 9 0 0;"
            work "month;water 0 1;?" = -9
            work "month;water 0 0;" = -8
            work "month;"+"again 1["*7 = -7
            told 4 = 0
            place 0 1 = 9
            count 2 = 0
            undo = -1
            """);
    }

    private static void sixteenWorks() {
        Edges.edge("-20 ahead of that (nothing is read, there is no FAULT, the TAPE is empty then): 16 WORKS are there"
            + " that were not undone.", """
            on "place 0 0 0 0;want 0 1 0 1;"
            14x work "month;" = 1
            work "" = 0
            work "sell 0;month;" = 1
            count 2 = 16
            coast "?" = -9
            fault = 0
            work "?" = -20
            fault = -1
            count 1 = 0
            work "month;" = -20
            told 4 = 15
            told 9 = 1
            feed "month;" = 20
            work 0 = -20
            count 1 = 0
            work 1 = wrong
            feed " "*160 = 160
            work 151 = wrong
            count 1 = 160
            work 150 = -20
            count 2 = 16
            undo = 15
            work "?" = -9
            fault = 0
            work "month;" = 1
            work "month;" = -20
            """);
    }

    private static void undoing() {
        Edges.edge("The latest WORK that was done is undone: how many are left; -1: there is none.", """
            undo = -1
            on "place 0 9 9 1;place 0 9 9 1;want 0 1 0 5;mine 1 9 0;"
            undo = -1
            work "month;sell 0;dig 0 1;carry 0 1 2 1;water 1 1;" = 5
            work "?" = -9
            work "month;" = 1
            undo = 1
            told 4 = 1
            told 5 = 2
            undo = 0
            told 4 = 0
            told 5 = 0
            place 0 1 = 9
            place 0 2 = 9
            place 0 4 = 0
            place 1 1 = 9
            place 1 2 = 9
            want 0 4 = 1
            want 0 5 = 0
            mine 0 1 = 9
            mine 0 4 = 0
            undo = -1
            16x work "month;" = 1
            undo = 15
            told 4 = 15
            undo = 14
            told 4 = 14
            """);
        Edges.edge("The latest WORK that was done is undone", """
            on "place 0 9 0 0;"
            work "" = 0
            law 0 "7" = 1
            book "0 2;" = 1
            undo = 0
            told 8 = 1
            count 0 = 0
            feed "x" = 20
            undo = -1
            count 1 = 20
            """);
    }
}
