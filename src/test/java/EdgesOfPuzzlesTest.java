/** Sentences of the document that name an edge of options, nights, looks, leaks, shafts, sellers and the sky. */
public final class EdgesOfPuzzlesTest {
    private EdgesOfPuzzlesTest() {
    }

    public static void main(String[] args) {
        options();
        optionNumbers();
        lateAndNow();
        nights();
        night();
        looks();
        leaky();
        misses();
        seam();
        seamMonths();
        sellers();
        gets();
        moons();
        darkDays();
        clouds();
        span();
        Checks.end();
    }

    private static void options() {
        // From 3 by 4 up or 5 down: 11, 2, 0 and up to 4, 0 and 0.
        Edges.edge("each hour it goes up by u (Q of 16) or down by d (0 at least)", """
            late 3 0 5 0 0 1 0 = 0
            late 3 4 5 8 0 2 0 = 17
            late 3 4 5 8 0 2 1 = 4
            late 0 99 99 16 0 6 0 = 594
            late 0 99 99 0 0 6 0 = 0
            late 594 99 99 0 0 6 0 = 0
            late 595 99 99 0 0 6 0 = 1
            """);
        // It is best used in the first hour if it is up then, and in the second if it was down.
        Edges.edge("in each of t hours and now it may be used once: the price less k", """
            option 12 1 1 8 10 0 0 = 2
            option 20 0 5 8 10 6 0 = 10
            option 0 10 10 4 5 2 0 = 35
            option 0 10 10 4 5 2 1 = 16
            late 0 10 10 4 5 2 0 = 15
            late 0 10 10 4 5 2 1 = 8
            option 0 10 0 16 59 6 0 = 1
            option 0 10 0 16 59 5 0 = 0
            """);
        Edges.edge("its worth is the most by using it whenever it is best (0 by not using it): exactly, as a fraction.", """
            option 0 0 0 0 999 6 0 = 0
            option 0 0 0 0 999 6 1 = 1
            option 9 0 0 8 10 6 0 = 0
            option 10 0 0 8 10 6 0 = 0
            option 11 0 0 8 10 6 0 = 1
            option 0 1 99 1 5 6 0 = 1
            option 0 1 99 1 5 6 1 = 16777216
            option 999 99 99 15 0 6 1 = 4
            option 999 99 99 15 0 6 0 = 6075
            """);
    }

    private static void optionNumbers() {
        Edges.edge("An OPTION (s 0 to 999, u, d 0 to 99 each, Q 0 to 16, k 0 to 999, t 0 to 6): above (part 0), below"
            + " (part 1), in least terms.", """
            option 0 0 0 0 0 0 0 = 0
            option 0 0 0 0 0 0 1 = 1
            option 999 99 99 16 999 6 0 = 594
            option 999 99 99 16 999 6 1 = 1
            option 10 1 0 8 10 1 0 = 1
            option 10 1 0 8 10 1 1 = 2
            option 10 2 0 8 10 1 1 = 1
            option 10 1 0 3 10 1 0 = 3
            option 10 1 0 3 10 1 1 = 16
            option -1 1 1 1 1 1 0 = wrong
            option 1000 1 1 1 1 1 0 = wrong
            option 1 -1 1 1 1 1 0 = wrong
            option 1 100 1 1 1 1 0 = wrong
            option 1 1 -1 1 1 1 0 = wrong
            option 1 1 100 1 1 1 0 = wrong
            option 1 1 1 -1 1 1 0 = wrong
            option 1 1 1 17 1 1 0 = wrong
            option 1 1 1 1 -1 1 0 = wrong
            option 1 1 1 1 1000 1 0 = wrong
            option 1 1 1 1 1 -1 0 = wrong
            option 1 1 1 1 1 7 0 = wrong
            status 1 = 12
            """);
    }

    private static void lateAndNow() {
        Edges.edge("Used LATE: in the last hour alone.", """
            late 20 0 5 8 10 0 0 = 10
            late 20 0 5 8 10 2 0 = 5
            late 20 0 5 8 10 6 0 = 5
            late 20 0 5 8 10 6 1 = 8
            late 9 1 1 8 10 1 0 = 0
            late 9 1 1 8 10 1 1 = 1
            late -1 1 1 1 1 1 0 = wrong
            late 1000 1 1 1 1 1 0 = wrong
            late 1 -1 1 1 1 1 0 = wrong
            late 1 100 1 1 1 1 0 = wrong
            late 1 1 -1 1 1 1 0 = wrong
            late 1 1 100 1 1 1 0 = wrong
            late 1 1 1 -1 1 1 0 = wrong
            late 1 1 1 17 1 1 0 = wrong
            late 1 1 1 1 -1 1 0 = wrong
            late 1 1 1 1 1000 1 0 = wrong
            late 1 1 1 1 1 -1 0 = wrong
            late 1 1 1 1 1 7 0 = wrong
            status 1 = 12
            """);
        Edges.edge("Whether it is best to use an OPTION now (what it brings is above 0 and no less than its worth).", """
            now 10 0 0 8 10 0 = no
            now 9 0 0 8 10 0 = no
            now 11 0 0 8 10 0 = yes
            now 11 0 0 8 10 6 = yes
            now 30 2 2 8 10 6 = yes
            now 30 3 2 8 10 6 = no
            now 30 2 3 8 10 6 = yes
            now 12 2 2 8 10 1 = yes
            now 11 2 2 8 10 1 = no
            now 999 0 99 0 0 6 = yes
            now 0 0 99 0 0 6 = no
            now 9 10 10 4 5 1 = yes
            now 9 10 10 4 5 2 = no
            now -1 1 1 1 1 1 = wrong
            now 1000 1 1 1 1 1 = wrong
            now 1 -1 1 1 1 1 = wrong
            now 1 100 1 1 1 1 = wrong
            now 1 1 -1 1 1 1 = wrong
            now 1 1 100 1 1 1 = wrong
            now 1 1 1 -1 1 1 = wrong
            now 1 1 1 17 1 1 = wrong
            now 1 1 1 1 -1 1 = wrong
            now 1 1 1 1 1000 1 = wrong
            now 1 1 1 1 1 -1 = wrong
            now 1 1 1 1 1 7 = wrong
            status 1 = 12
            """);
    }

    private static void nights() {
        Edges.edge("the fewest into which all WANTS of a PLACE go, none in two (NONE, if one is longer)", """
            on "place 0 9 0 0;place 0 0 0 0;place 0 0 0 0;want 0 2 0 1;want 0 2 0 1;want 0 2 0 1;want 1 12 0 1;"
            nights 0 3 = 3
            nights 0 4 = 2
            nights 0 5 = 2
            nights 0 6 = 1
            nights 0 2 = 3
            nights 0 1 = -1
            nights 1 12 = 1
            nights 1 11 = -1
            nights 2 1 = 0
            nights 2 24 = 0
            work "sell 0;" = 1
            nights 0 3 = 3
            on "place 0 0 0 0;"
            nights 0 1 = 0
            """);
        Edges.edge("NIGHTS of n hours (1 to 24) for a PLACE.", """
            on "place 0 0 0 0;"+"want 0 1 0 1;"*12
            nights 0 1 = 12
            nights 0 24 = 1
            nights 0 0 = wrong
            nights 0 25 = wrong
            nights 0 MIN = wrong
            on "place 0 0 0 0;"+"want 0 12 0 1;"*12
            nights 0 24 = 6
            nights 0 23 = 12
            nights 0 12 = 12
            nights 0 11 = -1
            """);
    }

    private static void night() {
        Edges.edge("the first way (WANT by WANT on the least night that it can be on).", """
            on "place 0 0 0 0;want 0 3 0 1;want 0 4 0 1;want 0 6 0 1;want 0 7 0 1;"
            nights 0 10 = 2
            night 0 10 = 0
            night 1 10 = 1
            night 2 10 = 1
            night 3 10 = 0
            night 0 12 = 0
            night 1 12 = 1
            night 2 12 = 0
            night 3 12 = 1
            night 0 13 = 0
            night 1 13 = 0
            night 2 13 = 0
            night 3 13 = 1
            on "place 0 0 0 0;"+"want 0 1 0 1;"*3+"want 0 2 0 1;"*3
            nights 0 3 = 3
            night 0 3 = 0
            night 1 3 = 1
            night 2 3 = 2
            night 3 3 = 0
            night 4 3 = 1
            night 5 3 = 2
            on "place 0 0 0 0;want 0 3 0 1;want 0 5 0 1;want 0 8 0 1;want 0 7 0 1;want 0 4 0 1;"
            nights 0 14 = 2
            night 1 14 = 1
            night 2 14 = 1
            night 3 14 = 0
            night 4 14 = 0
            """);
        Edges.edge("On which night (from 0 on) a WANT is then; NONE: there is no way.", """
            on "place 0 9 0 0;place 0 0 0 0;want 0 5 0 1;want 1 6 0 1;want 0 3 0 1;want 0 2 0 1;"
            night 0 5 = 0
            night 2 5 = 1
            night 3 5 = 1
            night 1 5 = -1
            night 1 6 = 0
            night 0 4 = -1
            night 2 4 = -1
            night 0 1 = -1
            night 0 0 = wrong
            night 0 25 = wrong
            night 1 MAX = wrong
            work "sell 0;" = 1
            night 0 5 = 0
            night 2 5 = 1
            on "place 0 0 0 0;"+"want 0 12 0 1;"*12
            night 11 23 = 11
            night 11 24 = 5
            """);
    }

    private static void looks() {
        Edges.edge("one look at up to m of them tells whether it is among them: the fewest looks that are enough at the"
            + " worst; the first look: at how many then (the fewest).", """
            looks 2 1 0 = 1
            looks 2 1 1 = 1
            looks 3 3 0 = 2
            looks 3 3 1 = 1
            looks 8 3 0 = 4
            looks 8 3 1 = 1
            looks 8 4 0 = 3
            looks 8 4 1 = 4
            looks 9 4 0 = 4
            looks 9 4 1 = 1
            looks 12 4 0 = 4
            looks 12 4 1 = 4
            looks 13 4 0 = 5
            looks 13 4 1 = 1
            """);
        Edges.edge("LOOKS (n 1 to 40, m 1 to 40): 0 the fewest, 1 the first look (0: none is needed).", """
            looks 1 1 0 = 0
            looks 1 1 1 = 0
            looks 1 40 0 = 0
            looks 1 40 1 = 0
            looks 40 1 0 = 39
            looks 40 1 1 = 1
            looks 40 40 0 = 6
            looks 40 40 1 = 8
            looks 32 40 0 = 5
            looks 32 40 1 = 16
            looks 33 40 0 = 6
            looks 33 40 1 = 1
            looks 0 1 0 = wrong
            looks 41 1 0 = wrong
            looks 1 0 0 = wrong
            looks 1 41 0 = wrong
            looks MIN 1 1 = wrong
            looks 1 MAX 1 = wrong
            status 1 = 6
            """);
    }

    private static void leaky() {
        Edges.edge("sets of PLACES by which the BOOK is right in all lines", """
            leaky 0 = 1
            leaky 1 = 0
            on "place 0 0 0 0;"*6
            leaky 0 = 64
            leaky 1 = 0
            book "0 3;5 3;" = 2
            leaky 0 = 4
            leaky 1 = 51
            book "0 3;5 3;2 4;" = 3
            leaky 0 = 1
            leaky 1 = 63
            book "0 0;1 0;2 0;3 0;4 0;5 0;" = 6
            leaky 0 = 1
            leaky 1 = 0
            """);
        Edges.edge("0 how many sets, 1 the first (least bits; NONE), 2 PLACES in all of them, 3 PLACES in none (bits; 0, if"
            + " there are no sets).", """
            leaky 2 = 0
            leaky 3 = 0
            on "place 0 0 0 0;place 1 0 0 0;place 2 0 0 0;"
            leaky 0 = 8
            leaky 1 = 0
            leaky 2 = 0
            leaky 3 = 0
            book "1 2;" = 1
            leaky 0 = 2
            leaky 1 = 2
            leaky 2 = 0
            leaky 3 = 0
            book "0 2;" = 1
            leaky 0 = 2
            leaky 1 = 1
            leaky 2 = 1
            leaky 3 = 2
            book "0 4;" = 1
            leaky 0 = 0
            leaky 1 = -1
            leaky 2 = 0
            leaky 3 = 0
            book "0 99;1 0;" = 2
            leaky 0 = 0
            book "0 0;" = 1
            leaky 0 = 2
            leaky 2 = 0
            leaky 3 = 3
            book "0 0;2 2;" = 2
            leaky 1 = 4
            leaky 2 = 4
            leaky 3 = 3
            """);
    }

    private static void misses() {
        Edges.edge("How many hours a PLACE would miss, if told ones (bits) were leaky.", """
            on "place 0 0 0 0;"*6
            book "0 99;" = 1
            misses 0 0 = 0
            misses 0 1 = 2
            misses 0 32 = 0
            misses 5 32 = 2
            misses 5 48 = 3
            misses 4 63 = 4
            """);
        // The row is 3, 1, 2, 0.
        Edges.edge("a leaky one misses 2 hours, and each next to it in the row of PLACES by X (of one X by number) 1.", """
            on "place 9 0 0 0;place 5 0 0 0;place 5 0 0 0;place 0 0 0 0;"
            misses 3 8 = 2
            misses 3 2 = 1
            misses 3 4 = 0
            misses 3 1 = 0
            misses 1 8 = 1
            misses 1 4 = 1
            misses 1 1 = 0
            misses 2 2 = 1
            misses 2 1 = 1
            misses 2 8 = 0
            misses 0 4 = 1
            misses 0 2 = 0
            misses 0 15 = 3
            misses 1 15 = 4
            misses 2 15 = 4
            misses 3 15 = 3
            misses 1 0 = 0
            on "place 40 0 0 0;"
            misses 0 1 = 2
            misses 0 0 = 0
            """);
        Edges.edge("IllegalArgumentException: bits of no PLACES.", """
            on "place 0 0 0 0;place 0 0 0 0;"
            misses 0 3 = 3
            misses 0 4 = wrong
            misses 0 5 = wrong
            misses 0 -1 = wrong
            misses 0 MIN = wrong
            misses 0 MAX = wrong
            on "place 0 0 0 0;"*6
            misses 5 63 = 3
            misses 5 64 = wrong
            """);
    }

    private static void seam() {
        Edges.edge("that by which most comes out together, less 1 hour for each shaft; the first (MONTH by MONTH, fewer"
            + " first).", """
            on "place 0 0 0 0;mine 0 6 0;mine 0 7 0;mine 0 4 0;"
            seam 0 1 9 0 = 4
            seam 0 1 9 1 = 2
            seam 0 2 9 0 = 4
            seam 0 2 9 1 = 2
            seam 0 4 1 0 = 4
            seam 0 4 1 1 = 11
            seam 1 1 9 0 = 4
            seam 1 1 9 1 = 2
            seam 2 1 9 0 = 2
            seam 2 1 9 1 = 1
            law 1 "shafts" = 1
            seam 0 4 9 0 = 0
            seam 0 4 9 1 = 0
            law 1 "least[shafts,2]*2" = 1
            seam 0 2 9 0 = 3
            seam 0 2 9 1 = 12
            law 1 "left/2" = 1
            seam 0 2 9 0 = 2
            seam 0 2 9 1 = 1
            law 1 "0-9" = 1
            seam 0 4 9 0 = 0
            seam 0 4 9 1 = 0
            mine 0 1 = 6
            told 5 = 0
            """);
        Edges.edge("SEAM by n (1 to 4), k (0 to 9): 0 hours less shafts, 1 the shafts as digits to the base 10 (the first"
            + " MONTH's the highest).", """
            on "place 0 0 0 0;mine 0 400 0;mine 0 0 0;"
            seam 0 1 0 0 = 0
            seam 0 1 0 1 = 0
            seam 0 1 9 0 = 18
            seam 0 1 9 1 = 9
            seam 0 4 9 0 = 72
            seam 0 4 9 1 = 9999
            seam 1 4 9 0 = 0
            seam 1 4 9 1 = 0
            law 1 "shafts*(3-month)" = 1
            seam 0 4 9 0 = 27
            seam 0 4 9 1 = 9900
            seam 0 4 0 1 = 0
            seam 0 0 1 0 = wrong
            seam 0 5 1 0 = wrong
            seam 0 1 -1 0 = wrong
            seam 0 1 10 0 = wrong
            seam 0 MAX 1 0 = wrong
            seam 0 1 MIN 0 = wrong
            status 1 = 6
            """);
    }

    private static void seamMonths() {
        Edges.edge("shafts in each of the next n MONTHS (0 to k, from this one on, none while it is not open)", """
            on "place 0 0 0 0;mine 0 400 1;mine 0 400 11;mine 0 9 11;"
            seam 0 1 9 0 = 0
            seam 0 1 9 1 = 0
            seam 0 2 9 0 = 18
            seam 0 2 9 1 = 9
            seam 0 3 4 1 = 44
            work "again 10[month;];" = 10
            seam 1 1 9 1 = 0
            seam 1 3 9 0 = 18
            seam 1 3 9 1 = 90
            seam 0 4 9 1 = 9909
            work "month;" = 1
            seam 1 1 9 1 = 9
            seam 1 2 9 1 = 90
            seam 1 4 9 1 = 9000
            seam 2 4 9 0 = 6
            seam 2 4 9 1 = 3000
            work "month;" = 1
            seam 1 4 9 1 = 0
            law 1 "shafts*year*2" = 1
            seam 0 2 1 0 = 1
            """);
    }

    private static void sellers() {
        Edges.edge("two tell a price, 0 to n, each", """
            on "place 0 0 0 0;want 0 1 0 9;"
            sellers 0 0 0 = 1
            sellers 0 1 0 = 4
            sellers 0 2 0 = 6
            """);
        Edges.edge("RESTS: neither would get more by another price.", """
            on "place 0 9 0 0;place 0 0 0 0;want 0 4 0 30;"
            sellers 0 0 0 = 1
            sellers 0 1 0 = 2
            sellers 0 2 0 = 3
            sellers 0 3 0 = 3
            sellers 0 20 0 = 3
            sellers 1 0 0 = 1
            sellers 1 20 0 = 441
            work "sell 0;" = 1
            sellers 0 20 0 = 441
            """);
        Edges.edge("SELLERS by n (0 to 20): 0 how many RESTS, 1 the first (100 times the one, and the other one; NONE), 2"
            + " what the one gets by it (0 without).", """
            on "place 0 0 0 0;want 0 1 0 0;want 0 3 1 2;"
            sellers 0 0 0 = 1
            sellers 0 0 1 = 0
            sellers 0 0 2 = 0
            sellers 0 20 1 = 0
            sellers 0 20 2 = 0
            sellers 0 -1 0 = wrong
            sellers 0 21 0 = wrong
            sellers 0 MIN 0 = wrong
            sellers 0 MAX 0 = wrong
            status 1 = 4
            """);
    }

    private static void gets() {
        Edges.edge("each open WANT there worth no less than the lower one is had by him who is cheaper (by both half, cut,"
            + " if they are alike), who gets the price for each of its hours", """
            on "place 0 99 0 0;place 0 0 0 0;want 0 5 0 9;want 0 3 1 8;want 0 1 0 7;want 1 12 0 99;"
            gets 0 9 10 = 45
            gets 0 10 11 = 0
            gets 0 8 9 = 64
            gets 0 9 8 = 0
            gets 0 10 9 = 0
            gets 0 9 9 = 18
            gets 0 8 8 = 24
            gets 0 7 7 = 21
            gets 0 7 99 = 63
            gets 0 10 10 = 0
            work "sell 0;" = 1
            gets 0 7 99 = 28
            gets 0 9 10 = 0
            """);
        Edges.edge("What one gets, if he tells a price and the other one another (0 to 99 both).", """
            on "place 0 0 0 0;want 0 12 0 99;"
            gets 0 0 0 = 0
            gets 0 0 99 = 0
            gets 0 99 99 = 594
            gets 0 98 99 = 1176
            gets 0 99 0 = 0
            gets 0 -1 0 = wrong
            gets 0 100 0 = wrong
            gets 0 0 -1 = wrong
            gets 0 0 100 = wrong
            status 1 = 4
            """);
    }

    private static void moons() {
        Edges.edge("MOONS on a DAY (0 to 9,999), as bits.", """
            moons 0 = 0
            moons 9999 = 0
            on "moon 2 0;moon 3 0;moon 10 9;"
            moons 0 = 3
            moons 1 = 0
            moons 2 = 1
            moons 9 = 6
            moons 9999 = 6
            moons -1 = wrong
            moons 10000 = wrong
            moons MIN = wrong
            moons MAX = wrong
            """);
        Edges.edge("The first DAY from one on (to 9,999) on which all MOONS are; NONE.", """
            bright 0 = 0
            bright 9999 = 9999
            on "moon 10 9;moon 4 3;"
            bright 0 = 19
            bright 19 = 19
            bright 20 = 39
            bright 9980 = 9999
            bright 9999 = 9999
            on "moon 10 8;moon 4 2;"
            bright 9999 = -1
            bright 9998 = 9998
            on "moon 2 0;moon 4 1;"
            bright 0 = -1
            bright -1 = wrong
            bright 10000 = wrong
            """);
    }

    private static void darkDays() {
        Edges.edge("DARK is a DAY (0 to 9,999) without MOON.", """
            dark 0 = 0
            darks 0 9999 = 10000
            on "moon 3 0;moon 3 1;"
            dark 0 = 2
            dark 2 = 2
            dark 3 = 5
            darks 0 9999 = 3333
            """);
        Edges.edge("The first DARK DAY from one on (to 9,999); NONE.", """
            on "moon 2 1;"
            dark 9997 = 9998
            dark 9998 = 9998
            dark 9999 = -1
            on "moon 2 0;"
            dark 9998 = 9999
            dark 9999 = 9999
            on "moon 1 0;"
            dark 0 = -1
            dark -1 = wrong
            dark 10000 = wrong
            dark MIN = wrong
            dark MAX = wrong
            """);
        Edges.edge("How many DAYS F to T are DARK. IllegalArgumentException: F above T, too.", """
            on "moon 2 1;"
            darks 0 0 = 1
            darks 1 1 = 0
            darks 9999 9999 = 0
            darks 9998 9999 = 1
            darks 0 9999 = 5000
            darks 1 9999 = 4999
            darks 1 0 = wrong
            darks 9999 9998 = wrong
            darks -1 5 = wrong
            darks 5 10000 = wrong
            darks 10000 10000 = wrong
            darks MIN MAX = wrong
            status 1 = 6
            """);
    }

    private static void clouds() {
        // By seed 1 the days draw 6, 14, 1, 11, 11, 11, 2, 11, 4, 6; by seed -1 9, 9, 6, 14, 9, 2, 8, 15, 0, 14.
        Edges.edge("for each of n DAYS from one on DRAW by 16 below Q: it is clouded, and DARK so.", """
            on "moon 1 0;"
            clouds 1 0 0 10 0 = 0
            clouds 1 1 0 10 0 = 0
            clouds 1 2 0 10 0 = 1
            clouds 1 6 0 10 0 = 3
            clouds 1 6 0 10 1 = 1
            clouds 1 7 0 10 0 = 5
            clouds 1 7 0 10 1 = 2
            clouds 1 12 0 10 0 = 9
            clouds 1 12 0 10 1 = 8
            clouds 1 14 0 10 0 = 9
            clouds 1 15 0 10 0 = 10
            clouds 1 16 0 60 1 = 60
            on "moon 2 0;"
            clouds 1 7 0 10 0 = 9
            clouds 1 7 0 10 1 = 5
            clouds 1 7 0 10 2 = 1
            clouds 1 7 1 10 0 = 6
            clouds 1 7 1 10 2 = 4
            """);
        Edges.edge("DRAW: the SEED (32 bits) becomes itself times 1,103,515,245, and 12,345 (it wraps); its bits 16 to 30,"
            + " what is left of them.", """
            on "moon 1 0;"
            clouds -1 9 0 10 0 = 4
            clouds -1 10 0 10 0 = 7
            clouds MAX 9 0 10 0 = 4
            clouds MAX 10 0 10 1 = 3
            clouds 0 1 0 10 0 = 1
            clouds MIN 1 0 10 0 = 1
            clouds 0 13 0 10 0 = 7
            clouds MIN 13 0 5 1 = 5
            """);
        Edges.edge("CLOUDS of n DAYS (1 to 60) from one on, Q (0 to 16): 0 how many are DARK, 1 the longest row of such, 2"
            + " how many are clouded though DARK without.", """
            clouds 1 0 0 1 0 = 1
            clouds 1 0 0 60 1 = 60
            clouds 1 0 0 60 2 = 0
            clouds 1 16 9999 60 2 = 60
            clouds 1 7 0 10 2 = 5
            on "moon 1 0;"
            clouds 1 0 9999 60 0 = 0
            clouds 1 0 9999 60 1 = 0
            clouds 1 16 9999 60 2 = 0
            clouds 1 -1 0 1 0 = wrong
            clouds 1 17 0 1 0 = wrong
            clouds 1 1 -1 1 0 = wrong
            clouds 1 1 10000 1 0 = wrong
            clouds 1 1 0 0 0 = wrong
            clouds 1 1 0 61 0 = wrong
            status 1 = 6
            """);
    }

    private static void span() {
        // Below 9 by seed 0 are three of ten days, by 1 and 2 five, by the greatest four, by the least three.
        Edges.edge("Of so many SEEDS (1 to 40; seed, seed and 1, ..), likewise: 0 the fewest that are DARK, 1 the most, 2"
            + " all together.", """
            on "moon 1 0;"
            span 0 1 9 0 10 0 = 3
            span 0 1 9 0 10 1 = 3
            span 0 1 9 0 10 2 = 3
            span 0 3 9 0 10 0 = 3
            span 0 3 9 0 10 1 = 5
            span 0 3 9 0 10 2 = 13
            span MAX 2 9 0 10 0 = 3
            span MAX 2 9 0 10 1 = 4
            span MAX 2 9 0 10 2 = 7
            span 5 40 16 9999 60 2 = 2400
            span 5 40 16 9999 60 0 = 60
            span 5 40 0 0 60 1 = 0
            span 5 0 1 0 1 0 = wrong
            span 5 41 1 0 1 0 = wrong
            span 5 1 -1 0 1 0 = wrong
            span 5 1 17 0 1 0 = wrong
            span 5 1 1 -1 1 0 = wrong
            span 5 1 1 10000 1 0 = wrong
            span 5 1 1 0 0 0 = wrong
            span 5 1 1 0 61 0 = wrong
            status 1 = 8
            """);
    }
}
