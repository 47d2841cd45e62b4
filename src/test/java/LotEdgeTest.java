/** The boundary cases of promises 6 to 8, 10 and 11: lot, sort, look, water, hold. */
public final class LotEdgeTest {
    // A chute 0, pens 1 and 2, scales 3 and 4, a hook 5, a chute 6; all a minute from the chute 0.
    static final String STAR = "place 0 = 0\nplace 1 = 1\nplace 1 = 2\nplace 2 = 3\nplace 2 = 4\nplace 3 = 5\nplace 0 = 6\n"
        + "alley 0 1 1 = 0\nalley 0 2 1 = 1\nalley 0 3 1 = 2\nalley 0 4 1 = 3\nalley 0 5 1 = 4\nalley 0 6 1 = 5\n";
    // A plain lot 0 with 5 heads in the pen 1, in minute 1.
    static final String PENNED = STAR + "lot 0 0 50100 1234 0 = 0\ndrive 0 1 = 1\nrun 1 = 1\n";
    // A mixed lot 0 with 9 heads of 400 pounds in the pen 1, in minute 1.
    private static final String MIXED = STAR + "lot 0 31 90400 7 0 = 0\ndrive 0 1 = 1\nrun 1 = 1\n";
    // 24 lots, of which 0 is a mixed one in the pen 1, the others at the hook; the chutes and the pen 2 are free.
    private static final String ALL_LOTS = MIXED + Script.each(1, 23, "lot 0 0 10100 0 0 = $\ndrive $ 5\nrun 1 = 1");

    public static void main(String[] args) {
        lotPlaces();
        lotNumbers();
        lotWrapAround();
        lotRoom();
        oneLotAtMost();
        sortBeyond();
        sortKinds();
        sortRefusals();
        sortEdges();
        lookRefusals();
        lookNone();
        thirst();
        dry();
        water();
        hold();
        Due.end();
    }

    private static void lotPlaces() {
        Script.is("6: BEYOND: PLACE", STAR, """
            lot -1 0 10100 0 0 = BEYOND
            lot 7 0 10100 0 0 = BEYOND
            lot MIN 0 10100 0 0 = BEYOND
            lot MAX 0 10100 0 0 = BEYOND
            lot 6 0 10100 0 0 = 0
            lot 0 0 10100 0 0 = 1
            """);
        Script.is("6, Terms 1: OWNER 0 .. 5; BEYOND: OWNER, told below 0", STAR, """
            lot 0 6 10100 0 0 = BEYOND
            lot 0 9 10100 0 0 = BEYOND
            lot 0 16 10100 0 0 = BEYOND
            lot 0 39 10100 0 0 = BEYOND
            lot 0 -1 10100 0 0 = BEYOND
            lot 0 -10 10100 0 0 = BEYOND
            lot 0 MIN 10100 0 0 = BEYOND
            lot 0 MAX 10100 0 0 = BEYOND
            lot 0 0 10100 0 0 = 0
            look 0 1 = 0
            lot 6 5 10100 0 0 = 1
            look 1 1 = 5
            """);
        Script.is("6: KIND: it is no CHUTE", STAR, Script.each(1, 5, "lot $ 0 10100 0 0 = KIND"), "count 3 = 0");
        Script.is("6: BEYOND ahead of KIND, KIND ahead of NO", STAR, """
            lot 7 40 10100 0 0 = BEYOND
            lot 1 6 10100 0 0 = BEYOND
            lot 1 -1 0 -1 -1 = BEYOND
            lot 0 6 0 -1 -1 = BEYOND
            lot 1 40 10100 0 0 = KIND
            lot 1 0 0 0 0 = KIND
            lot 1 0 10100 -1 -1 = KIND
            """);
    }

    private static void lotNumbers() {
        Script.is("6, Terms 1: KINDS 0 .. 3; NO: KIND", STAR, """
            lot 0 40 10100 0 0 = NO
            lot 0 45 10100 0 0 = NO
            lot 0 2147483645 10100 0 0 = NO
            lot 0 0 10100 0 0 = 0
            look 0 0 = 0
            lot 6 35 10100 0 0 = 1
            look 1 0 = 3
            look 1 1 = 5
            drive 0 5
            drive 1 5
            lot 0 14 10100 0 0 = 2
            look 2 0 = 1
            look 2 1 = 4
            lot 6 20 10100 0 0 = 3
            look 3 0 = 2
            look 3 1 = 0
            """);
        Script.is("6, Terms 1: HEADS 1 .. 200; NO: HEADS", STAR, """
            lot 0 0 100 0 0 = NO
            lot 0 0 2000 0 0 = NO
            lot 0 0 2010100 0 0 = NO
            lot 0 0 2010000 0 0 = NO
            lot 0 0 10100 0 0 = 0
            look 0 2 = 1
            lot 6 0 2002000 0 0 = 1
            look 1 2 = 200
            """);
        Script.is("6, Terms 1: POUNDS 100 .. 2000; NO: POUNDS", STAR, """
            lot 0 0 10000 0 0 = NO
            lot 0 0 10099 0 0 = NO
            lot 0 0 12001 0 0 = NO
            lot 0 0 19999 0 0 = NO
            lot 0 0 2002001 0 0 = NO
            lot 0 0 2000099 0 0 = NO
            lot 0 0 2000100 0 0 = 0
            look 0 3 = 100
            look 0 2 = 200
            lot 6 0 12000 0 0 = 1
            look 1 3 = 2000
            look 1 2 = 1
            """);
        Script.is("6, Terms 1: MARK 0 .. 9999; NO: MARK", STAR, """
            lot 0 0 10100 -1 0 = NO
            lot 0 0 10100 10000 0 = NO
            lot 0 0 10100 MIN 0 = NO
            lot 0 0 10100 MAX 0 = NO
            lot 0 0 10100 0 0 = 0
            look 0 4 = 0
            lot 6 0 10100 9999 0 = 1
            look 1 4 = 9999
            """);
        Script.is("6: WATERED dry minutes ago (0 .. 5000); NO: dry", STAR, """
            lot 0 0 10100 0 -1 = NO
            lot 0 0 10100 0 5001 = NO
            lot 0 0 10100 0 MIN = NO
            lot 0 0 10100 0 MAX = NO
            lot 0 0 10100 0 0 = 0
            look 0 8 = 0
            lot 6 0 10100 0 5000 = 1
            look 1 8 = 5000
            """);
    }

    private static void lotWrapAround() {
        Script.is("6: HEADS and POUNDS that are told below 0, or far above", STAR, """
            lot 0 0 -1 0 0 = NO
            lot 0 0 -10100 0 0 = NO
            lot 0 0 -9900 0 0 = NO
            lot 0 0 -19899 0 0 = NO
            lot 0 0 MIN 0 0 = NO
            lot 0 0 MAX 0 0 = NO
            lot 0 0 -2147480648 0 0 = NO
            lot 0 0 2147480500 0 0 = NO
            count 3 = 0
            """);
    }

    private static void lotRoom() {
        Script.is("6, Terms 1: LOTS 0 .. 23; FULL: a 25th", ALL_LOTS, """
            count 3 = 24
            lot 0 0 10100 0 0 = FULL
            lot 6 35 2002000 9999 5000 = FULL
            count 3 = 24
            look 23 2 = 1
            look 24 2 = BEYOND
            """);
        Script.is("6: BEYOND, KIND and NO ahead of FULL", ALL_LOTS, """
            lot 7 0 10100 0 0 = BEYOND
            lot 0 6 10100 0 0 = BEYOND
            lot 1 0 10100 0 0 = KIND
            lot 0 40 10100 0 0 = NO
            lot 0 0 100 0 0 = NO
            lot 0 0 10099 0 0 = NO
            lot 0 0 10100 10000 0 = NO
            lot 0 0 10100 0 5001 = NO
            drive 0 6
            lot 6 0 10100 0 0 = NO
            """);
    }

    private static void oneLotAtMost() {
        Script.is("6, Terms 1: a CHUTE has one LOT at most, there or on its way to it; NO: the CHUTE has a LOT", STAR, """
            lot 0 0 10100 0 0 = 0
            lot 0 0 10100 0 0 = NO
            drive 0 6 = 1
            lot 6 0 10100 0 0 = NO
            lot 0 0 10100 0 0 = 1
            run 1 = 1
            lot 6 0 10100 0 0 = NO
            drive 0 1
            lot 6 0 10100 0 0 = 2
            """);
        Script.is("9, Terms 1: a CHUTE, PEN, SCALE has one LOT at most, there or on its way to it", STAR, """
            lot 0 0 10100 0 0 = 0
            lot 6 0 10100 0 0 = 1
            drive 0 6 = NO
            drive 0 1 = 1
            drive 1 1 = NO
            run 1 = 1
            drive 1 1 = NO
            drive 0 3 = 3
            drive 1 3 = NO
            run 2 = 1
            drive 1 3 = NO
            drive 0 0 = 4
            drive 1 0 = NO
            run 1 = 1
            drive 1 0 = NO
            drive 1 3 = 6
            """);
        Script.is("9, Terms 1: a HOOK any number, there and on their way", ALL_LOTS, """
            count 8 = 23
            drive 0 5 = 26
            run 2 = 1
            count 8 = 32
            lay = 7
            row 5 = 32
            """);
    }

    private static void sortBeyond() {
        Script.is("7: BEYOND: LOT", MIXED, """
            sort -1 1 20 0 = BEYOND
            sort 1 1 20 0 = BEYOND
            sort MIN 1 20 0 = BEYOND
            sort MAX 1 20 0 = BEYOND
            sort 0 1 20 0 = 1
            """);
        Script.is("7: BEYOND: PEN: no PLACE; OWNER; told below 0", MIXED, """
            sort 0 1 70 0 = BEYOND
            sort 0 1 75 0 = BEYOND
            sort 0 1 2147483640 0 = BEYOND
            sort 0 1 26 0 = BEYOND
            sort 0 1 29 0 = BEYOND
            sort 0 1 -1 0 = BEYOND
            sort 0 1 -20 0 = BEYOND
            sort 0 1 MIN 0 = BEYOND
            sort 0 1 MAX 0 = BEYOND
            sort 0 1 20 0 = 1
            look 1 1 = 0
            """);
        Script.is("7: the last OWNER; the PEN 0", """
            place 1 = 0
            place 0 = 1
            place 1 = 2
            alley 1 2 1 = 0
            lot 1 30 90400 7 0 = 0
            drive 0 2 = 1
            run 1 = 1
            sort 0 1 5 0 = 1
            look 1 1 = 5
            look 1 5 = 0
            """);
        Script.is("7: BEYOND ahead of KIND", PENNED, "sort 1 1 30 0 = BEYOND\nsort 0 1 70 0 = BEYOND\n"
            + "sort 0 1 26 0 = BEYOND\nsort 0 0 -1 -1 = BEYOND");
    }

    private static void sortKinds() {
        Script.is("7: KIND: it is not MIXED", STAR, """
            lot 0 0 90400 7 0 = 0
            drive 0 1 = 1
            run 1 = 1
            sort 0 1 20 0 = KIND
            hold 0 1 = 0
            sort 0 1 20 0 = KIND
            lot 0 20 90400 7 0 = 1
            sort 1 1 20 0 = KIND
            """);
        Script.is("7: KIND: that is no PEN", MIXED, """
            sort 0 1 0 0 = KIND
            sort 0 1 30 0 = KIND
            sort 0 1 40 0 = KIND
            sort 0 1 50 0 = KIND
            sort 0 1 60 0 = KIND
            sort 0 1 20 0 = 1
            """);
        Script.is("7: KIND ahead of NO", MIXED, """
            sort 0 0 30 0 = KIND
            sort 0 9 30 0 = KIND
            sort 0 1 30 -1 = KIND
            lot 0 0 90400 7 0 = 1
            sort 1 1 20 0 = KIND
            sort 1 0 10 -1 = KIND
            lot 6 30 90400 7 0 = 2
            sort 2 1 30 0 = KIND
            """);
    }

    private static void sortRefusals() {
        Script.is("7: NO: it isn't in a PEN", STAR, """
            lot 0 30 90400 7 0 = 0
            sort 0 1 20 0 = NO
            drive 0 1 = 1
            sort 0 1 20 0 = NO
            run 1 = 1
            sort 0 1 20 0 = 1
            drive 0 3 = 3
            run 2 = 1
            drive 1 0 = 4
            run 1 = 1
            sort 0 1 20 0 = NO
            drive 0 5
            run 5 = 1
            sort 0 1 20 0 = NO
            """);
        Script.is("7: NO: heads (1 .. one less than it has)", MIXED, """
            sort 0 0 20 0 = NO
            sort 0 -1 20 0 = NO
            sort 0 MIN 20 0 = NO
            sort 0 9 20 0 = NO
            sort 0 10 20 0 = NO
            sort 0 MAX 20 0 = NO
            look 0 2 = 9
            sort 0 8 20 0 = 1
            look 0 2 = 1
            look 1 2 = 8
            drive 1 0
            run 5 = 1
            sort 0 1 20 0 = NO
            """);
        Script.is("7: one head", MIXED, "sort 0 1 20 0 = 1\nlook 0 2 = 8\nlook 1 2 = 1");
        Script.is("7, Terms 1: MARK 0 .. 9999; NO: MARK", MIXED, """
            sort 0 1 20 -1 = NO
            sort 0 1 20 10000 = NO
            sort 0 1 20 MIN = NO
            sort 0 1 20 MAX = NO
            sort 0 1 20 0 = 1
            look 1 4 = 0
            drive 1 5
            run 2 = 1
            sort 0 1 20 9999 = 2
            look 2 4 = 9999
            """);
        Script.is("7: NO: the PEN has a LOT, there or on its way, or is its own", MIXED, """
            sort 0 1 10 0 = NO
            lot 0 0 10100 0 0 = 1
            drive 1 2 = 2
            sort 0 1 20 0 = NO
            run 1 = 1
            sort 0 1 20 0 = NO
            drive 1 5
            sort 0 1 20 0 = 2
            sort 0 1 20 0 = NO
            """);
        Script.is("7: FULL: a 25th LOT; BEYOND, KIND and NO ahead of it", ALL_LOTS, """
            sort 0 1 20 0 = FULL
            look 0 2 = 9
            sort 24 1 20 0 = BEYOND
            sort 0 1 26 0 = BEYOND
            sort 1 1 20 0 = KIND
            sort 0 1 30 0 = KIND
            sort 0 9 20 0 = NO
            sort 0 0 20 0 = NO
            sort 0 1 20 10000 = NO
            sort 0 1 10 0 = NO
            """);
        Script.is("7, Terms 1: the last LOT that there is room for", MIXED,
            Script.each(1, 22, "lot 0 0 10100 0 0 = $\ndrive $ 5\nrun 1 = 1"), "sort 0 1 20 0 = 23\nsort 0 1 20 0 = NO");
    }

    private static void sortEdges() {
        Script.is("7: a PLAIN one, at once, with its POUNDS, WATERED as it was; what is left stays MIXED", MIXED, """
            run 9 = 0
            sort 0 3 24 8 = 1
            look 1 0 = 0
            look 1 1 = 4
            look 1 2 = 3
            look 1 3 = 400
            look 1 4 = 8
            look 1 5 = 2
            look 1 6 = NONE
            look 1 7 = NONE
            look 1 8 = 10
            look 1 11 = NONE
            look 1 12 = NONE
            look 0 0 = 3
            look 0 1 = 1
            look 0 2 = 6
            look 0 3 = 400
            look 0 4 = 7
            look 0 5 = 1
            """);
        Script.is("7, Terms 1: the last PEN that there is room for, and the last OWNER", "place 0 = 0\n",
            Script.each(1, 13, "place 1 = $"), """
            alley 0 4 1 = 0
            lot 0 30 90400 7 0 = 0
            drive 0 4 = 1
            run 1 = 1
            sort 0 1 140 0 = BEYOND
            sort 0 1 45 0 = NO
            sort 0 1 135 0 = 1
            look 1 5 = 13
            look 1 1 = 5
            sort 0 1 95 0 = 2
            look 2 5 = 9
            sort 0 1 50 0 = 3
            look 3 5 = 5
            look 3 1 = 0
            """);
        Script.is("7: neither SEEN nor JUDGED nor bid for, though the MIXED one was", MIXED, """
            see 0 0 = 1
            judge 0 1 = 1
            sort 0 3 21 7 = 1
            see 0 1 = 1
            look 1 10 = 1
            look 0 10 = 0
            sell 1 = MISSING
            """);
    }

    private static void lookRefusals() {
        Script.is("8: BEYOND: LOT", PENNED, "look -1 0 = BEYOND\nlook 1 0 = BEYOND\n"
            + "look MIN 0 = BEYOND\nlook MAX 0 = BEYOND\nlook 0 2 = 5");
        Script.is("8: NO: what", PENNED, """
            look 0 -1 = NO
            look 0 13 = NO
            look 0 MIN = NO
            look 0 MAX = NO
            look 0 0 = 0
            look 0 12 = NONE
            """);
        Script.is("8: BEYOND ahead of NO", PENNED, "look 1 13 = BEYOND\nlook -1 -1 = BEYOND");
        Script.is("8: the last LOT", ALL_LOTS, "look 23 4 = 0\nlook 24 4 = BEYOND");
    }

    private static void lookNone() {
        Script.is("8: PLACE (NONE: on its way), where to (NONE), when there (NONE)", STAR, """
            alley 1 2 7 = 6
            lot 0 0 10100 0 0 = 0
            look 0 5 = 0
            look 0 6 = NONE
            look 0 7 = NONE
            run 10 = 0
            drive 0 1 = 11
            look 0 5 = NONE
            look 0 6 = 1
            look 0 7 = 11
            run 1 = 1
            look 0 5 = 1
            look 0 6 = NONE
            look 0 7 = NONE
            drive 0 0 = 12
            look 0 5 = NONE
            look 0 6 = 0
            look 0 7 = 12
            """);
        Script.is("8: to whom it is SOLD (NONE), MONEY (NONE: none yet), which may be 0", PENNED, """
            look 0 11 = NONE
            look 0 12 = NONE
            write 1234 0 = 1
            see 0 0 = 1
            bid 0 0 1 = 1
            look 0 11 = NONE
            sell 0 = 0
            look 0 11 = 0
            look 0 12 = NONE
            tape 'dock 99'
            rule 0 1000 = 0
            drive 0 3 = 3
            run 2 = 1
            look 0 12 = NONE
            weigh 0 = 5
            look 0 12 = 0
            account 0 = 0
            """);
        Script.is("8, 36: MONEY below 0 is no refusal", PENNED, """
            tape 'fee 1'
            rule 0 1000 = 0
            write 1234 0 = 1
            see 4 0 = 1
            bid 4 0 1 = 1
            sell 0 = 4
            look 0 11 = 4
            drive 0 3 = 3
            run 2 = 1
            off 3 -99 = 0
            weigh 0 = 401
            look 0 12 = -1
            account 0 = -1
            """);
        Script.is("8, 36: MONEY of as little as a refusal's number", PENNED, """
            tape 'fee 2'
            rule 0 1000 = 0
            see 4 0 = 1
            bid 4 0 1 = 1
            sell 0 = 4
            drive 0 3 = 3
            run 2 = 1
            weigh 0 = 500
            look 0 12 = -5
            status KIND = 0
            off 3 -7 = 0
            off 3 0 = -7
            status NO = 0
            """);
    }

    private static void thirst() {
        Script.is("Terms 1, 8: THIRST: the open minute less that in which it was WATERED, at each PLACE and on its way",
            STAR, """
            lot 0 0 10100 0 4 = 0
            look 0 8 = 4
            run 1 = 0
            look 0 8 = 5
            drive 0 5 = 2
            look 0 8 = 5
            run 1 = 1
            look 0 8 = 6
            run 1000 = 0
            look 0 8 = 1006
            lot 0 0 10100 0 5000 = 1
            look 1 8 = 5000
            run 1 = 0
            look 1 8 = 5001
            """);
    }

    private static void dry() {
        Script.is("Terms 2, 8: DRY: THIRST above 1440", STAR, """
            lot 0 0 10100 0 1439 = 0
            look 0 9 = 0
            run 1 = 0
            look 0 8 = 1440
            look 0 9 = 0
            count 6 = 0
            run 1 = 0
            look 0 9 = 1
            count 6 = 1
            """);
        Script.is("Terms 2, 8: DRY: THIRST above what water says, as low as 0", STAR, """
            tape 'water 0 if kind=0'
            rule 1 3 = 0
            lot 0 0 10100 0 0 = 0
            look 0 9 = 0
            run 1 = 0
            look 0 9 = 1
            lot 6 0 10100 0 0 = 1
            look 1 9 = 0
            count 6 = 1
            run 1 = 0
            look 1 9 = 1
            run 1 = 0
            look 0 9 = 0
            count 6 = 0
            """);
        Script.is("Terms 2, 8: DRY: THIRST above what water says, as high as 9999", STAR, """
            tape 'water 9999'
            rule 0 100000 = 0
            lot 0 0 10100 0 5000 = 0
            run 1000 = 0
            run 1000 = 0
            run 1000 = 0
            run 1000 = 0
            run 999 = 0
            look 0 8 = 9999
            look 0 9 = 0
            run 1 = 0
            look 0 9 = 1
            """);
    }

    private static void water() {
        Script.is("10: BEYOND: LOT", PENNED, "water -1 = BEYOND\nwater 1 = BEYOND\n"
            + "water MIN = BEYOND\nwater MAX = BEYOND\nwater 0 = 1");
        Script.is("10: NO: it isn't in a PEN", STAR, """
            lot 0 0 10100 0 9 = 0
            water 0 = NO
            drive 0 1 = 1
            water 0 = NO
            run 1 = 1
            water 0 = 10
            drive 0 3 = 3
            water 0 = NO
            run 2 = 1
            water 0 = NO
            drive 0 5 = 5
            run 2 = 1
            water 0 = NO
            look 0 8 = 4
            """);
        Script.is("10: its THIRST before: the most that it came with, and none", STAR, """
            lot 0 30 10100 0 5000 = 0
            drive 0 2 = 1
            run 1 = 1
            water 0 = 5001
            look 0 8 = 0
            water 0 = 0
            run 1000 = 0
            water 0 = 1000
            """);
    }

    private static void hold() {
        Script.is("11: BEYOND: LOT", PENNED, "hold -1 0 = BEYOND\nhold 1 0 = BEYOND\n"
            + "hold MIN 0 = BEYOND\nhold MAX 0 = BEYOND\nhold 0 0 = 0");
        Script.is("11: KIND: it is THROUGH, MIXED", STAR, """
            lot 0 20 10100 0 0 = 0
            hold 0 0 = KIND
            hold 0 1 = KIND
            hold 0 2 = KIND
            lot 6 30 10100 0 0 = 1
            hold 1 0 = KIND
            hold 1 1 = KIND
            hold 1 3 = KIND
            """);
        Script.is("11: NO: kind", PENNED, """
            hold 0 -1 = NO
            hold 0 2 = NO
            hold 0 3 = NO
            hold 0 MIN = NO
            hold 0 MAX = NO
            look 0 0 = 0
            hold 0 0 = 0
            hold 0 1 = 0
            hold 0 2 = NO
            look 0 0 = 1
            hold 0 1 = 1
            hold 0 0 = 1
            hold 0 0 = 0
            """);
        Script.is("11: NO: it is SOLD", PENNED, """
            see 0 0 = 1
            bid 0 0 1 = 1
            hold 0 1 = 0
            hold 0 0 = 1
            sell 0 = 0
            hold 0 0 = NO
            hold 0 1 = NO
            hold 0 2 = NO
            look 0 0 = 0
            """);
        Script.is("11: BEYOND ahead of KIND, KIND ahead of NO", STAR, """
            lot 0 20 10100 0 0 = 0
            hold 1 2 = BEYOND
            hold -1 -1 = BEYOND
            hold 0 -1 = KIND
            hold 0 MAX = KIND
            """);
        Script.is("11: a LOT at a CHUTE, on its way, at a HOOK", STAR, """
            lot 0 0 10100 0 0 = 0
            hold 0 1 = 0
            drive 0 5 = 1
            hold 0 0 = 1
            run 1 = 1
            hold 0 1 = 0
            """);
    }
}
