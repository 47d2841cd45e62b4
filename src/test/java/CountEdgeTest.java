/** The boundary cases of promises 30 to 36: run, count, lay, tear, row, copy, status. */
public final class CountEdgeTest {
    private static final String STAR = LotEdgeTest.STAR;
    // Five chutes with 1, 2, 3, 4, 5 heads, laid.
    private static final String ROW = Script.each(0, 4, "place 0 = $")
        + "lot 0 0 10100 0 0\nlot 1 0 20100 0 0\nlot 2 0 30100 0 0\nlot 3 0 40100 0 0\nlot 4 0 50100 0 0\nlay = 5\n";

    public static void main(String[] args) {
        runNumbers();
        arrivals();
        countRefusals();
        countNone();
        countAll();
        lay();
        tear();
        row();
        copyRefusals();
        copyEdges();
        copyOverlaps();
        status();
        statusCountsAll();
        Due.end();
    }

    private static void runNumbers() {
        Script.is("30: n MINUTES (1 .. 1000); BELOW, NO", """
            run -1 = BELOW
            run MIN = BELOW
            run 0 = NO
            run 1001 = NO
            run MAX = NO
            count 0 = 0
            run 1 = 0
            count 0 = 1
            run 1000 = 0
            count 0 = 1001
            """);
        Script.is("30: BELOW, NO: no LOT comes", STAR, """
            lot 0 0 10100 0 0 = 0
            drive 0 1 = 1
            run 0 = NO
            look 0 5 = NONE
            run -1 = BELOW
            look 0 5 = NONE
            run 1001 = NO
            look 0 5 = NONE
            run 1 = 1
            look 0 5 = 1
            """);
        Script.is("Terms 1, 30: as many minutes as the calls allow", "run 1000 = 0\n".repeat(400),
            "count 0 = 400000\nplace 0 = 0\nplace 1 = 1\nalley 0 1 30 = 0",
            "lot 0 0 10100 0 5000 = 0\nlook 0 8 = 5000\ndrive 0 1 = 400030\nrun 30 = 1\nwater 0 = 5030\nlook 0 8 = 0");
    }

    private static void arrivals() {
        Script.is("30: how many LOTS came to their PLACES: none, one, several; in the last minute and no later one",
            STAR, """
            alley 6 5 3 = 6
            lot 0 0 10100 0 0 = 0
            lot 6 0 10100 0 0 = 1
            run 1000 = 0
            drive 0 5 = 1001
            drive 1 5 = 1002
            run 1 = 1
            run 1 = 1
            run 1 = 0
            lot 0 0 10100 0 0 = 2
            lot 6 0 10100 0 0 = 3
            drive 2 5 = 1004
            drive 3 5 = 1005
            run 1000 = 2
            count 5 = 0
            """);
        Script.is("30: all LOTS that there is room for", "place 0 = 0\nplace 3 = 1\nalley 0 1 30 = 0\n",
            Script.each(0, 23, "lot 0 0 10100 0 0 = $\ndrive $ 1"), """
            count 5 = 24
            run 719 = 23
            count 5 = 1
            run 1 = 1
            run 1000 = 0
            """);
    }

    private static void countRefusals() {
        Script.is("31: what 0 .. 10; NO", STAR, """
            count -1 = NO
            count 11 = NO
            count MIN = NO
            count MAX = NO
            count 0 = 0
            count 10 = 0
            """);
    }

    private static void countNone() {
        Script.is("31: nothing", Script.each(0, 10, "count $ = 0"));
        Script.is("31: two SOLD, two DRY, two on their way, HEADS of two at HOOKS", STAR, """
            lot 0 0 50100 0 5000 = 0
            drive 0 1 = 1
            lot 0 0 60100 0 5000 = 1
            drive 1 2 = 1
            count 5 = 2
            count 6 = 2
            run 2 = 2
            see 0 0 = 1
            see 0 1 = 1
            bid 0 0 1 = 1
            bid 0 1 1 = 1
            sell 0 = 0
            sell 1 = 0
            count 7 = 2
            drive 0 5 = 4
            drive 1 5 = 5
            count 8 = 0
            run 2 = 1
            count 8 = 5
            run 1 = 1
            count 8 = 11
            """);
        Script.is("31: one of each", STAR, """
            lot 0 0 10100 0 5000 = 0
            count 3 = 1
            count 6 = 1
            count 5 = 0
            drive 0 1 = 1
            count 5 = 1
            count 6 = 1
            run 1 = 1
            count 0 = 1
            count 5 = 0
            see 0 0 = 1
            bid 0 0 1 = 1
            count 7 = 0
            sell 0 = 0
            count 7 = 1
            water 0 = 5001
            count 6 = 0
            drive 0 5 = 3
            count 8 = 0
            run 2 = 1
            count 8 = 1
            tape 'fee 1'
            count 9 = 5
            count 4 = 0
            rule 0 1 = 0
            count 9 = 0
            count 4 = 1
            write 0 0 = 1
            count 10 = 1
            count 1 = 7
            count 2 = 6
            """);
    }

    private static void countAll() {
        Script.is("31: as much as there is room for", Script.each(0, 12, "place 0 = $"), "place 3 = 13\n",
            Script.each(0, 12, "alley $ 13 1 = $"), Script.each(13, 19, "alley 0 13 1 = $"),
            Script.each(0, 11, "lot $ 0 2002000 0 5000 = $\ndrive $ 13"), "run 1 = 12\n",
            Script.each(12, 23, "lot 12 0 2002000 0 5000 = $\ndrive $ 13\nrun 1 = 1"),
            Script.each(0, 9, "tape 'fee 1'\nrule 0 1 = $"), Script.each(0, 19, "write $ 0"),
                "tape '" + "x".repeat(80) + "'\n", """
            count 0 = 13
            count 1 = 14
            count 2 = 20
            count 3 = 24
            count 4 = 10
            count 5 = 0
            count 6 = 24
            count 7 = 0
            count 8 = 4800
            count 9 = 80
            count 10 = 20
            lay = 14
            row 13 = 4800
            row 0 = 0
            """);
    }

    private static void lay() {
        Script.is("32: how many PLACES: none; THE ROW is there then", "lay = 0\nrow 0 = BEYOND\ncopy 0 0 0 = 0\ntear = 1");
        Script.is("32: how many PLACES: 14", "place 0 = 0..13\nlay = 14\nrow 13 = 0\nrow 14 = BEYOND\n",
            "lot 13 0 2000100 0 0 = 0\nlay = 14\nrow 13 = 200\nrow 0 = 0");
        Script.is("32: HEADS at each PLACE: not those on their way; several LOTS at a HOOK", STAR, """
            lot 0 0 50100 0 0 = 0
            drive 0 5 = 1
            run 1 = 1
            lot 0 0 60100 0 0 = 1
            drive 1 5 = 2
            run 1 = 1
            lot 0 0 70100 0 0 = 2
            drive 2 1 = 3
            lot 0 0 80100 0 0 = 3
            lay = 7
            row 0 = 8
            row 1 = 0
            row 2 = 0
            row 3 = 0
            row 4 = 0
            row 5 = 11
            row 6 = 0
            run 1 = 1
            row 1 = 0
            lay = 7
            row 1 = 7
            row 5 = 11
            """);
        Script.is("32, 7: what is sorted out is at its own PEN", STAR, """
            lot 0 30 90100 0 0 = 0
            drive 0 1 = 1
            run 1 = 1
            sort 0 4 20 0 = 1
            lay = 7
            row 1 = 5
            row 2 = 4
            """);
        Script.is("32: THE ROW stays as it was laid", "place 0 = 0\nlay = 1\nplace 0 = 1\nlot 0 0 50100 0 0 = 0\n", """
            row 0 = 0
            row 1 = BEYOND
            copy 0 1 1 = COPY
            lay = 2
            row 0 = 5
            row 1 = 0
            """);
    }

    private static void tear() {
        Script.is("33: 1 if it was there, else 0 (at first it is missing)", "tear = 0\nrow 0 = MISSING\n"
            + "lay = 0\ntear = 1\ntear = 0\nrow 0 = MISSING\nlay = 0\ntear = 1");
        Script.is("33: laid again, nothing is left of it", ROW, "copy 4 0 1 = 1\ntear = 1\n"
            + "row 0 = MISSING\ncopy 0 0 1 = MISSING\nlay = 5\nrow 0 = 1\nrow 4 = 5");
    }

    private static void row() {
        Script.is("34: MISSING; ahead of BEYOND", "row 0 = MISSING\nrow -1 = MISSING\nrow 14 = MISSING\nrow MAX = MISSING");
        Script.is("34: BEYOND: i", ROW, """
            row -1 = BEYOND
            row 5 = BEYOND
            row MIN = BEYOND
            row MAX = BEYOND
            row 0 = 1
            row 4 = 5
            """);
    }

    private static void copyRefusals() {
        Script.is("35: MISSING; ahead of BELOW and COPY", "copy 0 0 0 = MISSING\ncopy 0 0 -1 = MISSING\n"
            + "copy -1 0 0 = MISSING\ncopy 0 9 9 = MISSING");
        Script.is("35: BELOW: n; ahead of COPY", ROW, """
            copy 0 0 -1 = BELOW
            copy 0 0 MIN = BELOW
            copy -1 0 -1 = BELOW
            copy 0 9 -1 = BELOW
            copy 5 5 -5 = BELOW
            copy 0 0 0 = 0
            """);
        Script.is("35: COPY: i or j below 0", ROW, """
            copy -1 0 1 = COPY
            copy 0 -1 1 = COPY
            copy -1 0 0 = COPY
            copy 0 -1 0 = COPY
            copy MIN 0 1 = COPY
            copy 0 MIN 1 = COPY
            """);
        Script.is("35: COPY: i + n or j + n above how many there are", ROW, """
            copy 5 0 1 = COPY
            copy 0 5 1 = COPY
            copy 1 0 5 = COPY
            copy 0 1 5 = COPY
            copy 0 0 6 = COPY
            copy 6 0 0 = COPY
            copy 0 6 0 = COPY
            row 0 = 1
            row 4 = 5
            """);
        Script.is("35: COPY: sums that wrap around", ROW, """
            copy 1 0 MAX = COPY
            copy 0 1 MAX = COPY
            copy 0 0 MAX = COPY
            copy MAX 0 1 = COPY
            copy 0 MAX 1 = COPY
            copy MAX MAX MAX = COPY
            copy MAX 0 0 = COPY
            copy MIN MIN MAX = COPY
            """);
    }

    private static void copyEdges() {
        Script.is("35: none: at the first, at the last, behind the last", ROW, "copy 0 0 0 = 0\ncopy 4 0 0 = 0\n"
            + "copy 5 0 0 = 0\ncopy 0 5 0 = 0\ncopy 5 5 0 = 0\nrow 0 = 1\nrow 4 = 5");
        Script.is("35: all there are", ROW, "copy 0 0 5 = 5\nrow 0 = 1\nrow 4 = 5");
        Script.is("35: the last to the first, the first to the last", ROW, "copy 4 0 1 = 1\nrow 0 = 5\n"
            + "copy 1 4 1 = 1\nrow 4 = 2\nrow 1 = 2\nrow 3 = 4");
        Script.is("35: of 14, the last 13", "place 0 = 0..13\n", Script.each(0, 9, "lot $ 0 1$0100 0 0"), """
            lot 13 0 990100 0 0
            lay = 14
            copy 1 0 14 = COPY
            copy 1 0 13 = 13
            row 0 = 11
            row 8 = 19
            row 9 = 0
            row 12 = 99
            row 13 = 99
            """);
    }

    private static void copyOverlaps() {
        Script.is("35: come as they were, toward the end", ROW, "copy 0 1 4 = 4\nrow 0 = 1\n"
            + "row 1 = 1\nrow 2 = 2\nrow 3 = 3\nrow 4 = 4");
        Script.is("35: come as they were, toward the beginning", ROW, "copy 1 0 4 = 4\nrow 0 = 2\n"
            + "row 1 = 3\nrow 2 = 4\nrow 3 = 5\nrow 4 = 5");
        Script.is("35: THE ROW alone changes, not the HEADS", ROW, "copy 4 0 1 = 1\nlook 0 2 = 1\nlay = 5\nrow 0 = 1");
    }

    private static void status() {
        Script.is("36: -2 .. -8; NO: another number", """
            status -1 = NO
            status -9 = NO
            status 0 = NO
            status 2 = NO
            status 7 = NO
            status MIN = NO
            status MAX = NO
            status -10 = NO
            status -2 = 0
            status -8 = 0
            status -7 = 8
            """);
        Script.is("36: NONE, 0 and a FAULT are no refusals", STAR, """
            place 1 = 7
            way 0 7 = NONE
            whose 5 = NONE
            lot 0 0 10100 0 0 = 0
            look 0 6 = NONE
            rule 0 1 = FAULT 0
            tape 'fee'
            rule 0 1 = FAULT 3
            tear = 0
            wipe = 3
            """, Script.each(2, 8, "status -$ = 0"));
    }

    private static void statusCountsAll() {
        Script.is("36: each of the seven, several times", STAR, """
            status MISSING = 0
            row 0 = MISSING
            status MISSING = 1
            planned 0 0 = MISSING
            copy 0 0 0 = MISSING
            status MISSING = 3
            status BEYOND = 0
            way 0 9 = BEYOND
            status BEYOND = 1
            account 6 = 0 by BEYOND
            off 9 0 = 0 by BEYOND
            status BEYOND = 3
            run -1 = BELOW
            feed 0 -1 = BELOW
            status BELOW = 2
            test 0 = KIND
            off 0 0 = 0 by KIND
            status KIND = 2
            lay = 7
            copy 0 0 8 = COPY
            status COPY = 1
            run 0 = NO
            off 3 100 = 0 by NO
            status NO = 2
            status 0 = NO
            status NO = 3
            """, "tape '" + "x".repeat(80) + "'\n", "feed 0 1 = FULL\nstatus FULL = 1\n"
                + "status MISSING = 3\nstatus BEYOND = 3\nstatus BELOW = 2\nstatus KIND = 2\nstatus COPY = 1");
        Script.is("36: as many refused calls as an object is used for", "run 0 = NO\n".repeat(500), "status NO = 500\nstatus 0 = NO\n"
            + "status NO = 501\ncount 0 = 0");
    }
}
