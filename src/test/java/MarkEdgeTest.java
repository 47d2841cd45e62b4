/** The boundary cases of promises 26 to 29, and of the marks in part 4 of the terms: write, whose, near, judge. */
public final class MarkEdgeTest {
    // 990 .. 999 and 9910 .. 9919.
    private static final String TWENTY = Script.each(0, 19, "write 99$ 0");
    // A lot 0 of owner 2 with the mark 0990, one 1 of owner 3 with the mark 9999.
    private static final String LOTS = "place 0 = 0\nplace 0 = 1\nlot 0 2 10100 990 0 = 0\nlot 1 3 10100 9999 0 = 1\n";

    public static void main(String[] args) {
        writeRefusals();
        writeRoom();
        whose();
        nearRefusals();
        nearEdges();
        doubt();
        judgeRefusals();
        judged();
        Due.end();
    }

    private static void writeRefusals() {
        Script.is("26, Terms 1: OWNER 0 .. 5; BEYOND: OWNER; ahead of NO", """
            write 1 -1 = BEYOND
            write 1 6 = BEYOND
            write 1 MIN = BEYOND
            write 1 MAX = BEYOND
            write -1 6 = BEYOND
            write 10000 -1 = BEYOND
            write 1 0 = 1
            write 2 5 = 2
            write 2 6 = BEYOND
            whose 1 = 0
            whose 2 = 5
            """);
        Script.is("26, Terms 1: MARK 0 .. 9999; NO: MARK", """
            write -1 0 = NO
            write 10000 0 = NO
            write MIN 0 = NO
            write MAX 0 = NO
            count 10 = 0
            write 0 0 = 1
            write 9999 0 = 2
            """);
        Script.is("26: NO: it is WRITTEN for an OWNER: the same, another one", """
            write 0 0 = 1
            write 0 0 = NO
            write 0 5 = NO
            write 9999 5 = 2
            write 9999 5 = NO
            write 9999 0 = NO
            whose 0 = 0
            whose 9999 = 5
            count 10 = 2
            """);
    }

    private static void writeRoom() {
        Script.is("26, Terms 4: 20 MARKS at most; FULL: a 21st", TWENTY, """
            count 10 = 20
            write 1 0 = FULL
            write 9999 5 = FULL
            whose 1 = NONE
            whose 9919 = 0
            """);
        Script.is("26: the 20th", Script.each(1, 19, "write $ 0 = $"), "write 0 5 = 20\nwhose 0 = 5\nnear 1 = 10");
        Script.is("26: BEYOND and NO ahead of FULL", TWENTY, """
            write 1 6 = BEYOND
            write 1 -1 = BEYOND
            write 10000 0 = NO
            write -1 0 = NO
            write 991 0 = NO
            write 991 1 = NO
            write 1 0 = FULL
            """);
    }

    private static void whose() {
        Script.is("27, Terms 1: MARK 0 .. 9999; NO", """
            whose -1 = NO
            whose 10000 = NO
            whose MIN = NO
            whose MAX = NO
            whose 0 = NONE
            whose 9999 = NONE
            write 0 4 = 1
            write 9999 0 = 2
            whose 0 = 4
            whose 9999 = 0
            whose 1 = NONE
            whose 9998 = NONE
            """);
    }

    private static void nearRefusals() {
        Script.is("28, Terms 1: MARK 0 .. 9999; NO", """
            write 1 0 = 1
            write 9998 0 = 2
            near -1 = NO
            near 10000 = NO
            near 9 = 1
            near MIN = NO
            near MAX = NO
            near 0 = 1
            near 9999 = 1
            """);
    }

    private static void nearEdges() {
        Script.is("28, Terms 4: NEAR are two MARKS that differ in just one of four digits, whichever", """
            write 5555 0 = 1
            near 5555 = 0
            near 5554 = 1
            near 5565 = 1
            near 5455 = 1
            near 6555 = 1
            near 5550 = 1
            near 5559 = 1
            near 555 = 1
            near 9555 = 1
            near 5566 = 0
            near 6556 = 0
            near 5545 = 1
            near 5546 = 0
            near 4444 = 0
            """);
        Script.is("28, Terms 4: of four digits: 0007 and 9007, but neither 70 nor 700", """
            write 7 0 = 1
            near 9007 = 1
            near 17 = 1
            near 107 = 1
            near 0 = 1
            near 8 = 1
            near 70 = 0
            near 700 = 0
            near 7000 = 0
            near 77 = 1
            near 7 = 0
            """);
        Script.is("28, Terms 4: 0009 and 0010, 0999 and 1000 are next to one another, but not NEAR",
            "write 9 0 = 1\nnear 10 = 0\nwrite 1000 0 = 2\nnear 999 = 0\nnear 0 = 2");
        Script.is("28: none, all 20, of any OWNER", "near 0 = 0\n", Script.each(1, 9, "write $ 0\nwrite $0 5"), """
            write 100 1 = 19
            near 0 = 19
            write 9000 2 = 20
            near 0 = 20
            near 9 = 8
            near 5555 = 0
            """);
    }

    private static void doubt() {
        Script.is("8, Terms 4: in DOUBT: its MARK is not WRITTEN for its OWNER: for none, for another one", LOTS, """
            look 0 10 = 1
            write 990 2 = 1
            look 0 10 = 0
            look 1 10 = 1
            write 9999 2 = 2
            look 1 10 = 1
            look 0 10 = 0
            """);
        Script.is("8, Terms 4: in DOUBT: a NEAR one that is WRITTEN for another OWNER", LOTS, """
            write 990 2 = 1
            write 991 2 = 2
            look 0 10 = 0
            write 1991 3 = 3
            look 0 10 = 0
            write 1990 3 = 4
            look 0 10 = 1
            write 9999 3 = 5
            look 1 10 = 0
            write 9989 3 = 6
            look 1 10 = 0
            write 999 0 = 7
            look 1 10 = 1
            """);
        Script.is("8, Terms 4: a NEAR one for its OWNER doesn't make up for its own", LOTS,
            "write 991 2 = 1\nlook 0 10 = 1");
        Script.is("8, Terms 4: a NEAR one that was WRITTEN first, and one that was WRITTEN last of 20", LOTS, """
            write 993 1 = 1
            write 990 2 = 2
            look 0 10 = 1
            write 9999 3 = 3
            """, Script.each(0, 9, "write 500$ 0"), Script.each(0, 5, "write 400$ 0"), """
            look 1 10 = 0
            write 9998 4 = 20
            look 1 10 = 1
            """);
    }

    private static void judgeRefusals() {
        Script.is("29: BEYOND: LOT, OWNER", LOTS, """
            judge -1 0 = BEYOND
            judge 2 0 = BEYOND
            judge MIN 0 = BEYOND
            judge MAX 0 = BEYOND
            judge 0 -1 = BEYOND
            judge 0 6 = BEYOND
            judge 0 MIN = BEYOND
            judge 0 MAX = BEYOND
            look 0 1 = 2
            look 0 10 = 1
            judge 0 0 = 1
            look 0 1 = 0
            judge 1 5 = 1
            look 1 1 = 5
            """);
    }

    private static void judged() {
        Script.is("29, Terms 4: whether it was in DOUBT, which it is till it is JUDGED", LOTS, """
            judge 0 4 = 1
            look 0 10 = 0
            judge 0 2 = 0
            write 9999 3 = 1
            judge 1 3 = 0
            write 9998 2 = 2
            look 1 10 = 0
            judge 1 0 = 0
            """);
        Script.is("29: JUDGED to be an OWNER's for whom its MARK is not WRITTEN", LOTS,
            "write 990 2 = 1\njudge 0 5 = 0\nlook 0 1 = 5\nlook 0 10 = 0\nlook 1 10 = 1");
        Script.is("29: the first and the last LOT that there is room for", "place 0 = 0\nplace 3 = 1\nalley 0 1 1 = 0\n",
            Script.each(0, 23, "lot 0 0 10100 0 0 = $\ndrive $ 1\nrun 1 = 1"), "judge 24 0 = BEYOND\njudge 23 5 = 1\n"
                + "look 23 1 = 5\njudge 0 0 = 1\nlook 22 10 = 1");
    }
}
