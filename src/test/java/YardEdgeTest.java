/** The boundary cases of promises 1 to 5: a new object, place, alley, way, by. */
public final class YardEdgeTest {
    private static final String THREE_PENS = "place 1 = 0..2\n";
    // 0 -5- 1 -5- 2, and 3 apart.
    private static final String LINE = "place 1 = 0..3\nalley 0 1 5 = 0\nalley 1 2 5 = 1\n";

    public static void main(String[] args) {
        newObject();
        places();
        alleyRefusals();
        alleyMinutes();
        alleyRoom();
        wayRefusals();
        wayEdges();
        byEdges();
        likeWays();
        Due.end();
    }

    private static void newObject() {
        Script.is("1: no PLACES, ALLEYS, LOTS, RULES, MARKS; THE TAPE is empty; the open minute is 0",
            Script.each(0, 10, "count $ = 0"));
        Script.is("1, 36: nothing was refused yet", Script.each(2, 8, "status -$ = 0"));
        Script.is("1: there is no PLACE, LOT, RULE to ask of", """
            way 0 0 = BEYOND
            by 0 0 0 = BEYOND
            alley 0 0 1 = BEYOND
            lot 0 0 10100 0 0 = BEYOND
            sort 0 1 0 0 = BEYOND
            look 0 0 = BEYOND
            drive 0 0 = BEYOND
            water 0 = BEYOND
            hold 0 0 = BEYOND
            plan 0 0 = NO
            plan 1 0 = BEYOND
            plan 0 1 = BEYOND
            planned 0 0 = MISSING
            holds 0 0 NONE = BEYOND
            said 0 0 = BEYOND
            see 0 0 = BEYOND
            bid 0 0 1 = BEYOND
            sell 0 = BEYOND
            weigh 0 = BEYOND
            off 0 0 = 0 by BEYOND
            test 0 = BEYOND
            judge 0 0 = BEYOND
            row 0 = MISSING
            copy 0 0 0 = MISSING
            wipe = 0
            tear = 0
            rule 0 1 = FAULT 0
            whose 0 = NONE
            whose 9999 = NONE
            near 0 = 0
            run 1 = 0
            lay = 0
            """, Script.each(0, 5, "account $ = 0"));
        Script.is("1: the numbers of each thing begin at 0", """
            place 0 = 0
            place 1 = 1
            alley 0 1 1 = 0
            lot 0 0 10100 0 0 = 0
            tape 'fee 1'
            rule 0 1 = 0
            write 0 0 = 1
            """);
    }

    private static void places() {
        Script.is("2, Terms 1: KINDS 0 .. 3; NO: another one", """
            place -1 = NO
            place 4 = NO
            place MIN = NO
            place MAX = NO
            count 1 = 0
            place 0 = 0
            place 1 = 1
            place 2 = 2
            place 3 = 3
            count 1 = 4
            """);
        Script.is("2, Terms 1: KINDS 0 CHUTE, 1 PEN, 2 SCALE, 3 HOOK", """
            place 0 = 0
            place 1 = 1
            place 2 = 2
            place 3 = 3
            alley 0 1 1 = 0
            alley 0 2 1 = 1
            alley 0 3 1 = 2
            lot 0 0 10100 0 0 = 0
            lot 1 0 10100 0 0 = KIND
            lot 2 0 10100 0 0 = KIND
            lot 3 0 10100 0 0 = KIND
            off 0 1 = 0 by KIND
            off 1 1 = 0 by KIND
            off 3 1 = 0 by KIND
            off 2 1 = 0
            plan 1 1 = KIND
            plan 1 4 = KIND
            plan 1 8 = KIND
            plan 1 2 = 1
            drive 0 3 = 1
            run 1 = 1
            count 8 = 1
            """);
        Script.is("2, Terms 1: PLACES 0 .. 13; FULL: a 15th", """
            place 1 = 0..13
            place 1 = FULL
            place 0 = FULL
            place 3 = FULL
            count 1 = 14
            way 13 13 = 0
            way 14 14 = BEYOND
            """);
        Script.is("2: NO ahead of FULL", "place 1 = 0..13\nplace 4 = NO\nplace -1 = NO\nplace 0 = FULL");
    }

    private static void alleyRefusals() {
        Script.is("3: BEYOND: PLACES below 0 and behind the last", THREE_PENS, """
            alley -1 0 1 = BEYOND
            alley 3 0 1 = BEYOND
            alley MIN 0 1 = BEYOND
            alley MAX 0 1 = BEYOND
            alley 0 -1 1 = BEYOND
            alley 0 3 1 = BEYOND
            alley 0 MIN 1 = BEYOND
            alley 0 MAX 1 = BEYOND
            count 2 = 0
            alley 0 2 1 = 0
            alley 2 0 1 = 1
            count 2 = 2
            """);
        Script.is("3: NO: a PLACE and itself", THREE_PENS, """
            alley 0 0 1 = NO
            alley 2 2 1 = NO
            way 0 0 = 0
            by 0 0 0 = BEYOND
            """);
        Script.is("3: BEYOND ahead of NO", THREE_PENS, """
            alley 3 3 1 = BEYOND
            alley -1 -1 1 = BEYOND
            alley 3 0 0 = BEYOND
            alley 0 3 31 = BEYOND
            """);
    }

    private static void alleyMinutes() {
        Script.is("3, Terms 1: ALLEYS take 1 .. 30 minutes; NO: minutes", THREE_PENS, """
            alley 0 1 0 = NO
            alley 0 1 -1 = NO
            alley 0 1 31 = NO
            alley 0 1 MIN = NO
            alley 0 1 MAX = NO
            way 0 1 = NONE
            alley 0 1 30 = 0
            way 0 1 = 30
            alley 0 1 1 = 1
            way 0 1 = 1
            """);
        Script.is("3, Terms 1: both ways", THREE_PENS, """
            alley 2 0 30 = 0
            way 2 0 = 30
            way 0 2 = 30
            by 2 0 0 = 0
            by 0 2 0 = 0
            """);
    }

    private static void alleyRoom() {
        Script.is("3, Terms 1: ALLEYS 0 .. 19; FULL: a 21st", THREE_PENS, """
            alley 0 1 5 = 0..19
            alley 0 1 1 = FULL
            alley 1 2 1 = FULL
            count 2 = 20
            way 0 1 = 5
            way 1 2 = NONE
            """);
        Script.is("3: the last ALLEY that there is room for is one", THREE_PENS, """
            alley 0 1 5 = 0..18
            alley 1 2 3 = 19
            way 0 2 = 8
            by 0 2 1 = 19
            """);
        Script.is("3: BEYOND and NO ahead of FULL", THREE_PENS, """
            alley 0 1 5 = 0..19
            alley 0 3 1 = BEYOND
            alley 0 0 1 = NO
            alley 0 1 0 = NO
            alley 0 1 31 = NO
            """);
    }

    private static void wayRefusals() {
        Script.is("4: BEYOND: PLACES below 0 and behind the last", LINE, """
            way -1 0 = BEYOND
            way 4 0 = BEYOND
            way 0 -1 = BEYOND
            way 0 4 = BEYOND
            way MIN 0 = BEYOND
            way MAX 0 = BEYOND
            way 0 MIN = BEYOND
            way 0 MAX = BEYOND
            way -1 -1 = BEYOND
            way 4 4 = BEYOND
            """);
        Script.is("5: BEYOND: PLACES below 0 and behind the last", LINE, """
            by -1 0 0 = BEYOND
            by 4 0 0 = BEYOND
            by 0 -1 0 = BEYOND
            by 0 4 0 = BEYOND
            by MIN 0 0 = BEYOND
            by MAX 0 0 = BEYOND
            by 0 MIN 0 = BEYOND
            by 0 MAX 0 = BEYOND
            """);
    }

    private static void wayEdges() {
        Script.is("4: 0 of a PLACE with itself, the first, the last, one without ALLEYS", LINE, """
            way 0 0 = 0
            way 2 2 = 0
            way 3 3 = 0
            """);
        Script.is("4: NONE: there is none", LINE, """
            way 0 3 = NONE
            way 3 0 = NONE
            way 2 3 = NONE
            alley 2 3 30 = 2
            way 0 3 = 40
            way 3 0 = 40
            """);
        Script.is("4, Terms 3: ALLEYS one behind the other, with the fewest minutes in all", LINE, """
            way 0 2 = 10
            alley 0 2 11 = 2
            way 0 2 = 10
            by 0 2 0 = 0
            alley 2 0 9 = 3
            way 0 2 = 9
            by 0 2 0 = 3
            way 1 2 = 5
            """);
        Script.is("4, Terms 3: the longest WAY: 13 ALLEYS of 30 minutes", "place 1 = 0..13\n",
            "alley 13 12 30\nalley 12 11 30\nalley 11 10 30\nalley 10 9 30\nalley 9 8 30\nalley 8 7 30\nalley 7 6 30",
            "alley 6 5 30\nalley 5 4 30\nalley 4 3 30\nalley 3 2 30\nalley 2 1 30\nalley 1 0 30",
            "way 0 13 = 390\nway 13 0 = 390\nway 0 12 = 360\nby 0 13 0 = 12\nby 0 13 12 = 0\nby 0 13 13 = BEYOND");
    }

    private static void byEdges() {
        Script.is("5: ALLEY i of that WAY, from 0; BEYOND: i", LINE, """
            by 0 2 -1 = BEYOND
            by 0 2 0 = 0
            by 0 2 1 = 1
            by 0 2 2 = BEYOND
            by 0 2 MIN = BEYOND
            by 0 2 MAX = BEYOND
            by 2 0 0 = 1
            by 2 0 1 = 0
            by 2 0 2 = BEYOND
            """);
        Script.is("5: BEYOND: there is no WAY", LINE, """
            by 0 3 0 = BEYOND
            by 3 0 0 = BEYOND
            by 0 3 -1 = BEYOND
            """);
        Script.is("5: of a PLACE with itself there is no ALLEY 0", LINE, "by 0 0 0 = BEYOND\nby 3 3 0 = BEYOND\n"
            + "by 1 1 -1 = BEYOND");
    }

    private static void likeWays() {
        Script.is("Terms 3: of like ones the one whose first ALLEY has the least number: two ALLEYS between the same PLACES", """
            place 1 = 0..1
            alley 0 1 8 = 0
            alley 0 1 7 = 1
            alley 1 0 7 = 2
            by 0 1 0 = 1
            by 1 0 0 = 1
            """);
        Script.is("Terms 3: the first ALLEY where they are unlike, though a later one has a lesser number", """
            place 1 = 0..3
            alley 2 3 4 = 0
            alley 0 1 4 = 1
            alley 1 3 4 = 2
            alley 0 2 4 = 3
            by 0 3 0 = 1
            by 0 3 1 = 2
            by 3 0 0 = 0
            by 3 0 1 = 3
            """);
        Script.is("Terms 3: unlike only at the second ALLEY; fewer ALLEYS don't count", """
            place 1 = 0..4
            alley 1 3 1 = 0
            alley 0 1 6 = 1
            alley 1 2 2 = 2
            alley 1 2 2 = 3
            alley 0 2 8 = 4
            alley 3 2 1 = 5
            way 0 2 = 8
            by 0 2 0 = 1
            by 0 2 1 = 0
            by 0 2 2 = 5
            by 0 2 3 = BEYOND
            """);
    }
}
