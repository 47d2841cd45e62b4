/** Part 5 of the terms: a refused call changes nothing but status(), asked of an object in which much is going on. */
public final class RefusedEdgeTest {
    // From the chute 0 a minute to the pens 1, 2, 8, 11, the scales 3, 4, the hook 5, the chute 6, and 20 minutes to the
    // pen 7; the pen 9 and the chute 10 are apart. It is minute 15.
    private static final String PLACES = """
        place 0 = 0
        place 1 = 1
        place 1 = 2
        place 2 = 3
        place 2 = 4
        place 3 = 5
        place 0 = 6
        place 1 = 7
        place 1 = 8
        place 1 = 9
        place 0 = 10
        place 1 = 11
        alley 0 1 1 = 0
        alley 0 2 1 = 1
        alley 0 3 1 = 2
        alley 0 4 1 = 3
        alley 0 5 1 = 4
        alley 0 6 1 = 5
        alley 0 7 20 = 6
        alley 0 8 1 = 7
        alley 0 11 1 = 8
        """;
    // 0 sold and paid at the hook, 1 sold and not yet weighed on the scale 4, 2 mixed in the pen 2, 3 held and bid for
    // on its way to the pen 7, 4 bid for in the pen 1, 5 through at the chute 6, 6 plain at the chute 10, 7 sold and
    // not yet weighed in the pen 8, 8 plain on its way to the scale 3.
    private static final String LOTS = """
        lot 0 0 100500 1111 0 = 0
        drive 0 1 = 1
        run 1 = 1
        see 0 0 = 1
        see 1 0 = 1
        bid 0 0 300 = 1
        bid 1 0 400 = 2
        sell 0 = 1
        drive 0 3 = 3
        run 2 = 1
        off 3 5 = 0
        weigh 0 = 5005
        drive 0 5 = 5
        run 2 = 1
        lot 0 1 50200 2222 60 = 1
        drive 1 1 = 6
        run 1 = 1
        see 2 1 = 1
        bid 2 1 50 = 1
        sell 1 = 2
        drive 1 4 = 8
        run 2 = 1
        off 4 -7 = 0
        lot 0 32 90400 3333 0 = 2
        drive 2 2 = 9
        run 1 = 1
        lot 0 5 40500 7777 0 = 3
        drive 3 1 = 10
        run 1 = 1
        see 4 3 = 1
        bid 4 3 77 = 1
        hold 3 1 = 0
        drive 3 7 = 31
        lot 0 4 70100 5555 1400 = 4
        drive 4 1 = 12
        run 2 = 1
        see 0 4 = 1
        see 3 4 = 1
        bid 0 4 10 = 1
        bid 3 4 12 = 2
        lot 6 24 80800 6666 5000 = 5
        lot 10 0 10100 1110 0 = 6
        lot 0 2 30300 8888 0 = 7
        drive 7 8 = 13
        run 1 = 1
        see 0 7 = 1
        bid 0 7 90 = 1
        sell 7 = 0
        run 2 = 0
        lot 0 3 20200 9999 0 = 8
        drive 8 3 = 16
        """;
    private static final String REST = """
        write 1111 0 = 1
        write 1112 5 = 2
        write 5555 4 = 3
        judge 0 0 = 1
        tape 'bar 3'
        rule 0 100000 = 0
        tape 'fee 5 if buyer=1 or thirst>60'
        rule 0 100000 = 1
        tape 'dock 3 if kind=0'
        rule 5 500 = 2
        tape 'water 2000 if !owner=4'
        rule 15 16 = 3
        tape 'fee 7'
        lay = 12
        copy 0 9 1 = 1
        plan 16 2048 = 17
        """;
    private static final String YARD = PLACES + LOTS + REST;

    public static void main(String[] args) {
        yard();
        lots();
        drives();
        rules();
        buying();
        weighing();
        marks();
        timeAndRows();
        Due.end();
    }

    private static void yard() {
        Script.is("Terms 5: place, alley, way, by", YARD, """
            place -1 = NO
            place 4 = NO
            alley 0 12 1 = BEYOND
            alley 12 0 1 = BEYOND
            alley 9 9 1 = NO
            alley 0 9 0 = NO
            alley 0 9 31 = NO
            way 0 12 = BEYOND
            by 0 12 0 = BEYOND
            by 0 1 1 = BEYOND
            by 0 9 0 = BEYOND
            """);
    }

    private static void lots() {
        Script.is("Terms 5: lot, sort", YARD, """
            lot 12 0 10100 0 0 = BEYOND
            lot 0 6 10100 0 0 = BEYOND
            lot 1 0 10100 0 0 = KIND
            lot 0 40 10100 0 0 = NO
            lot 0 0 10099 0 0 = NO
            lot 0 0 2010100 0 0 = NO
            lot 0 0 10100 10000 0 = NO
            lot 0 0 10100 0 5001 = NO
            lot 6 0 10100 0 0 = NO
            sort 9 1 90 0 = BEYOND
            sort 2 1 120 0 = BEYOND
            sort 2 1 96 0 = BEYOND
            sort 4 1 90 0 = KIND
            sort 2 1 30 0 = KIND
            sort 2 0 90 0 = NO
            sort 2 9 90 0 = NO
            sort 2 1 90 10000 = NO
            sort 2 1 10 0 = NO
            sort 2 1 70 0 = NO
            """);
        Script.is("Terms 5: look, water, hold", YARD, """
            look 9 0 = BEYOND
            look 0 13 = NO
            water 9 = BEYOND
            water 0 = NO
            water 1 = NO
            water 3 = NO
            water 5 = NO
            hold 9 0 = BEYOND
            hold 2 1 = KIND
            hold 5 0 = KIND
            hold 3 2 = NO
            hold 4 -1 = NO
            hold 0 1 = NO
            hold 1 1 = NO
            hold 7 0 = NO
            """);
    }

    private static void drives() {
        Script.is("Terms 5: drive", YARD, """
            drive 9 0 = BEYOND
            drive 4 12 = BEYOND
            drive 3 0 = NO
            drive 3 7 = NO
            drive 8 0 = NO
            drive 4 1 = NO
            drive 4 2 = NO
            drive 4 7 = NO
            drive 4 3 = NO
            drive 0 0 = NO
            drive 0 5 = NO
            drive 6 0 = MISSING
            drive 4 9 = MISSING
            """);
        Script.is("Terms 5: plan, planned", YARD, """
            drive 3 0 = NO
            plan 512 512 = BEYOND
            plan 16 4096 = BEYOND
            plan 16 1 = KIND
            plan 16 8 = KIND
            plan 0 0 = NO
            plan 20 512 = NO
            plan 16 640 = NO
            plan 1 512 = NO
            plan 8 512 = NO
            plan 16 2 = NO
            plan 16 4 = NO
            plan 16 512 = MISSING
            plan 64 512 = MISSING
            planned 1 0 = BEYOND
            planned 0 2 = NO
            planned -1 0 = BEYOND
            """);
    }

    private static void rules() {
        Script.is("Terms 5: feed, rule, holds, said", YARD, """
            feed 540090417 -1 = BELOW
            feed 540090417 5 = NO
            rule 5 5 = NO
            rule -1 5 = NO
            rule 0 100001 = NO
            holds 4 0 0 = BEYOND
            holds 0 9 0 = BEYOND
            holds 0 0 5 = BEYOND
            said 9 0 = BEYOND
            said 0 3 = NO
            """);
        Script.is("Terms 5: a FAULT: THE TAPE stays", YARD, """
            tape ' if'
            rule 0 9 = FAULT 8
            """);
        Script.is("Terms 5: a full TAPE, all RULES", YARD, Script.each(4, 9, "rule 0 9\ntape 'fee $'"),
            "tape '" + " if kind=1 or kind=2".repeat(3) + "'\n", """
            rule 0 9 = FULL
            feed 0 4 = 69
            feed 0 4 = 73
            feed 0 4 = 77
            feed 540090417 4 = FULL
            """);
    }

    private static void buying() {
        Script.is("Terms 5: see", YARD, """
            see 5 4 = BEYOND
            see -1 4 = BEYOND
            see 0 9 = BEYOND
            see 1 0 = NO
            see 2 0 = NO
            see 1 1 = NO
            see 2 3 = NO
            see 1 5 = NO
            see 1 6 = NO
            see 1 8 = NO
            """);
        Script.is("Terms 5: bid, sell", YARD, """
            bid 5 4 5 = BEYOND
            bid 0 9 5 = BEYOND
            bid 4 3 78 = KIND
            bid 0 2 5 = KIND
            bid 0 5 5 = KIND
            bid 0 4 0 = NO
            bid 0 4 10000 = NO
            bid 1 4 50 = NO
            bid 3 4 50 = NO
            bid 0 7 500 = NO
            bid 0 0 500 = NO
            bid 0 8 5 = NO
            sell 9 = BEYOND
            sell 2 = KIND
            sell 3 = KIND
            sell 5 = KIND
            sell 0 = NO
            sell 1 = NO
            sell 7 = NO
            sell 6 = MISSING
            sell 8 = MISSING
            """);
    }

    private static void weighing() {
        Script.is("Terms 5: weigh, off, test, account", YARD, """
            weigh 9 = BEYOND
            weigh 0 = NO
            weigh 2 = NO
            weigh 7 = NO
            weigh 8 = NO
            weigh 5 = NO
            off 12 9 = 0 by BEYOND
            off -1 9 = 0 by BEYOND
            off 0 9 = 0 by KIND
            off 5 9 = 0 by KIND
            off 3 100 = 0 by NO
            off 4 -100 = 0 by NO
            test 12 = BEYOND
            test -1 = BEYOND
            test 1 = KIND
            test 5 = KIND
            account 6 = 0 by BEYOND
            account -1 = 0 by BEYOND
            """);
    }

    private static void marks() {
        Script.is("Terms 5: write, whose, near, judge", YARD, """
            write 5 6 = BEYOND
            write 10000 0 = NO
            write 1111 0 = NO
            write 1111 3 = NO
            write 1112 0 = NO
            whose 10000 = NO
            near -1 = NO
            judge 9 0 = BEYOND
            judge 4 6 = BEYOND
            judge 4 -1 = BEYOND
            """);
        Script.is("Terms 5: all MARKS", YARD, Script.each(10, 26, "write $00 1"),
            "write 5550 3 = FULL\nwrite 2222 1 = FULL\nwrite 1111 1 = NO");
    }

    private static void timeAndRows() {
        Script.is("Terms 5: run, count", YARD, "run -1 = BELOW\nrun 0 = NO\nrun 1001 = NO\ncount -1 = NO\n"
            + "count 11 = NO\nrun 1 = 1\nrun 14 = 0\nrun 0 = NO\nrun 1 = 1");
        Script.is("Terms 5: row, copy, status", YARD, """
            row -1 = BEYOND
            row 12 = BEYOND
            copy 0 1 -1 = BELOW
            copy -1 1 1 = COPY
            copy 1 -1 1 = COPY
            copy 2 4 9 = COPY
            copy 4 2 9 = COPY
            status -1 = NO
            status -9 = NO
            tear = 1
            row 2 = MISSING
            copy 0 1 1 = MISSING
            """);
    }
}
