/** Sentences of the document that name an edge of an object: how many calls, the TAPE, texts, IMAGES, refused calls. */
public final class EdgesOfObjectsTest {
    private EdgesOfObjectsTest() {
    }

    public static void main(String[] args) {
        calls();
        newOnes();
        tape();
        coasts();
        coastsThatStay();
        laws();
        books();
        faultPlaces();
        images();
        restores();
        refusals();
        counts();
        Checks.dueText("<NONE = -1>", String.valueOf(WickNights.NONE), "-1");
        Checks.end();
    }

    private static void calls() {
        // These are 512 calls: four for the coast, three for each work.
        Edges.edge("An object is used for at most 512 calls after it has been made", """
            on "place 0 9 9 1;want 0 3 0 5;mine 0 400 0;moon 2 0;"
            15x work "again 20[again 9[month;];];" = 179
            told 4 = 2685
            image = 1
            150x told 10 = wrong
            150x place 1 0 = missing
            100x nights 0 24 = 1
            undo = 14
            undo = 13
            54x sellers 0 20 0 = 2
            status 0 = 150
            status 1 = 150
            restore = 0
            count 2 = 15
            told 4 = 2685
            """);
    }

    private static void newOnes() {
        Edges.edge("A COAST without CLAUSES.", """
            told 0 = 0
            told 1 = 0
            told 2 = 0
            told 3 = 0
            told 4 = 0
            told 5 = 0
            told 6 = 0
            told 7 = 0
            told 8 = 0
            told 9 = 0
            place 0 0 = missing
            want 0 0 = missing
            mine 0 0 = missing
            fault = -1
            count 0 = 0
            count 1 = 0
            count 2 = 0
            undo = -1
            restore = -1
            work "again 3[month;];" = 3
            told 4 = 3
            """);
    }

    private static void tape() {
        Edges.edge("Twenty bytes come on the TAPE, of each number the highest first: how many there are", """
            feed 1886151011 1696610080 824193568 859512864 538976288 = 20
            coast 14 = 1
            place 0 0 = 7
            place 0 1 = 1
            place 0 2 = 2
            place 0 3 = 3
            feed -1 0 MIN MAX 1 = 20
            feed 0 0 0 0 0 = 40
            coast 40 = -9
            fault = 0
            """);
        Edges.edge("NONE, doing nothing, if there would be more than 600.", """
            feed " "*580 = 580
            feed "place 1 2 3 4;" = 600
            feed "place 5 6 7 8;" = -1
            count 1 = 600
            feed 0 0 0 0 0 = -1
            count 1 = 600
            coast 600 = 1
            place 0 0 = 1
            told 0 = 1
            count 1 = 0
            feed 0 0 0 0 0 = 20
            """);
    }

    private static void coasts() {
        Edges.edge("The first n bytes of the TAPE (empty then) are the COAST", """
            feed "place 1 2 3 4;" = 20
            coast 14 = 1
            count 1 = 0
            feed "place 1 2 3 4;?" = 20
            feed "place 5 6 7 8;" = 40
            coast 14 = 1
            place 0 0 = 1
            count 1 = 0
            feed "place 1 2 3 4;" = 20
            coast 0 = 0
            count 1 = 0
            feed "place 1 2 3 4;" = 20
            coast 13 = -9
            count 1 = 0
            """);
        Edges.edge("(MONTH 0; no LAWS, BOOK, IMAGES, nothing to undo): how many PLACES", """
            on "place 0 9 0 0;place 20 0 0 0;want 0 1 0 5;mine 0 9 0;"
            law 0 "7" = 1
            law 1 "7" = 1
            book "0 2;" = 1
            work "month;sell 0;sell 0;dig 0 1;" = 3
            place 0 4 = 1
            image = 1
            image = 2
            coast "place 0 9 0 0;place 20 0 0 0;want 0 1 0 5;mine 0 9 0;" = 2
            told 4 = 0
            told 5 = 0
            told 8 = 0
            told 9 = 0
            arrives 0 1 99 1 = 50
            digs 0 1 = 3
            leaky 0 = 4
            count 0 = 0
            count 2 = 0
            undo = -1
            restore = -1
            place 0 4 = 0
            want 0 4 = 1
            want 0 5 = 0
            mine 0 1 = 9
            mine 0 4 = 0
            coast "" = 0
            told 1 = 0
            told 2 = 0
            coast "place 0 0 0 0;"*6 = 6
            """);
    }

    private static void coastsThatStay() {
        Edges.edge("or the FAULT less 10 (all stays).", """
            on "place 0 9 0 0;place 20 0 0 0;want 0 1 0 5;mine 0 9 0;moon 2 1;leaks 0;shaft 1;"
            law 0 "7" = 1
            law 1 "8" = 1
            book "0 2;" = 1
            work "month;sell 0;sell 0;" = 2
            image = 1
            coast "place 1 1 1 1;leaks 8;shaft 9;?" = -9
            coast "place 1 1 1 1;want 0 1 0 100;" = -8
            coast "place 1 1 1 1;"*7 = -7
            fault = 84
            told 0 = 2
            told 1 = 1
            told 2 = 1
            told 3 = 1
            told 4 = 1
            told 5 = 5
            told 6 = 8
            told 8 = 1
            told 9 = 1
            arrives 0 1 99 1 = 7
            digs 0 1 = 8
            ahead 0 60 0 = 8
            moons 1 = 1
            work "dig 0 2;" = 1
            told 5 = 3
            undo = 1
            count 0 = 1
            restore = 0
            undo = 0
            """);
        Edges.edge("IllegalArgumentException: n is not 0 to the TAPE's bytes (it stays).", """
            coast -1 = wrong
            coast 1 = wrong
            coast MIN = wrong
            coast MAX = wrong
            feed "place 1 2 3 4;" = 20
            coast -1 = wrong
            coast 21 = wrong
            count 1 = 20
            fault = -1
            coast 20 = 1
            coast 1 = wrong
            told 0 = 1
            status 1 = 7
            """);
    }

    private static void laws() {
        Edges.edge("Likewise a LAW (0 ARRIVE, 1 DIG; n to 150): 1. IllegalArgumentException also: another which.", """
            on "place 0 0 0 0;place 20 0 0 0;mine 0 99 0;"
            law 0 "7" = 1
            digs 0 1 = 3
            law 1 "8" = 1
            arrives 0 1 99 1 = 7
            digs 0 1 = 8
            law 0 "9+" = -9
            arrives 0 1 99 1 = 7
            count 1 = 0
            feed "5" = 20
            law -1 1 = wrong
            law 2 1 = wrong
            law MIN 1 = wrong
            law 0 -1 = wrong
            law 0 21 = wrong
            law 1 151 = wrong
            count 1 = 20
            law 1 1 = 1
            digs 0 1 = 5
            count 1 = 0
            status 1 = 6
            law 0 0 = -9
            fault = 0
            told 4 = 0
            """);
    }

    private static void books() {
        Edges.edge("Likewise the BOOK (n to 100): how many lines.", """
            on "place 0 0 0 0;"*6
            book "0 0;1 0;2 0;3 0;4 0;5 0;" = 6
            leaky 1 = 0
            book "5 2;" = 1
            leaky 0 = 16
            book "5 100;" = -8
            told 8 = 1
            feed "0 2;" = 20
            book -1 = wrong
            book 21 = wrong
            count 1 = 20
            book 4 = 1
            leaky 1 = 1
            count 1 = 0
            book 1 = wrong
            book 0 = 0
            leaky 0 = 64
            status 1 = 3
            """);
    }

    private static void faultPlaces() {
        Edges.edge("The place of the FAULT of the latest text; NONE without.", """
            fault = -1
            coast "?" = -9
            fault = 0
            coast "place 1 2 3 4;" = 1
            fault = -1
            law 0 " ?" = -9
            fault = 1
            law 0 "1" = 1
            fault = -1
            work "  ?" = -9
            fault = 2
            work "" = 0
            fault = -1
            book "   ?" = -9
            fault = 3
            coast 1 = wrong
            law 2 0 = wrong
            work -1 = wrong
            book 101 = wrong
            told 10 = wrong
            undo = 0
            feed "x" = 20
            fault = 3
            book 0 = 0
            fault = -1
            """);
    }

    private static void images() {
        Edges.edge("An IMAGE of all but the LAWS, the BOOK: how many there are; -1: there are 3.", """
            image = 1
            image = 2
            image = 3
            image = -1
            count 0 = 3
            restore = 2
            image = 3
            image = -1
            on "place 0 9 0 0;place 0 9 0 0;mine 0 99 0;"
            law 0 "1" = 1
            law 1 "1" = 1
            book "0 2;" = 1
            image = 1
            law 0 "7" = 1
            law 1 "8" = 1
            book "0 0;1 0;" = 2
            restore = 0
            arrives 0 1 99 1 = 7
            digs 0 1 = 8
            told 8 = 2
            leaky 1 = 0
            """);
    }

    private static void restores() {
        Edges.edge("All is as in the latest IMAGE, which is gone: how many are left; -1: there is none.", """
            restore = -1
            on "place 0 9 8 1;place 0 9 0 0;want 0 1 0 5;mine 0 99 0;"
            restore = -1
            work "month;" = 1
            image = 1
            work "sell 0;" = 1
            image = 2
            work "dig 0 1;carry 0 1 1 1;month;" = 3
            undo = 2
            undo = 1
            undo = 0
            undo = -1
            restore = 1
            told 4 = 1
            told 5 = 5
            want 0 4 = 0
            want 0 5 = 1
            place 0 1 = 9
            place 0 2 = 6
            place 0 4 = 2
            place 1 1 = 8
            mine 0 1 = 99
            count 2 = 2
            undo = 1
            want 0 4 = 1
            work "month;" = 1
            restore = 0
            told 4 = 1
            told 5 = 0
            count 2 = 1
            undo = 0
            told 4 = 0
            place 0 2 = 8
            restore = -1
            told 4 = 0
            16x work "month;" = 1
            image = 1
            undo = 15
            restore = 0
            count 2 = 16
            work "month;" = -20
            undo = 15
            told 4 = 15
            """);
    }

    private static void refusals() {
        Edges.edge("How many calls were refused: 0 NoSuchElementException, 1 IllegalArgumentException; NONE for others. (No"
            + " IMAGE keeps it.)", """
            status 0 = 0
            status 1 = 0
            status -1 = -1
            status 2 = -1
            status MIN = -1
            status MAX = -1
            image = 1
            can 0 = missing
            place 0 9 = missing
            told 10 = wrong
            status 0 = 2
            status 1 = 1
            restore = 0
            status 0 = 2
            status 1 = 1
            coast "" = 0
            coast "?" = -9
            undo = -1
            restore = -1
            status 0 = 2
            status 1 = 1
            """);
    }

    private static void counts() {
        Edges.edge("0 IMAGES, 1 bytes of the TAPE, 2 WORKS that can be undone; NONE for others.", """
            count 0 = 0
            count 1 = 0
            count 2 = 0
            count -1 = -1
            count 3 = -1
            count MIN = -1
            count MAX = -1
            image = 1
            image = 2
            image = 3
            count 0 = 3
            feed " "*600 = 600
            count 1 = 600
            work 0 = 0
            count 1 = 0
            15x work "" = 0
            count 2 = 16
            undo = 15
            count 2 = 15
            restore = 2
            count 0 = 2
            count 2 = 0
            coast "" = 0
            count 0 = 0
            """);
    }
}
