/** The boundary cases of promises 9, 12 and 13, and of part 3 of the terms: drive, plan, planned. */
public final class PlanEdgeTest {
    private static final String STAR = LotEdgeTest.STAR;
    private static final String PENNED = LotEdgeTest.PENNED;
    // Chutes 0 .. 4, pens 5 .. 9; from chute i a minute to the pen 5 + i; a lot at each chute.
    private static final String FIVE = Script.each(0, 4, "place 0 = $") + Script.each(5, 9, "place 1 = $")
        + "alley 0 5 1\nalley 1 6 1\nalley 2 7 1\nalley 3 8 1\nalley 4 9 1\n" + Script.each(0, 4, "lot $ 0 10100 0 0 = $");
    // Two lots at chutes 0 and 1 come to the pens 2 and 3 by one alley, 4 -3- 2 and 4 -6- 3.
    private static final String NECK = "place 0 = 0\nplace 0 = 1\nplace 1 = 2\nplace 1 = 3\nplace 1 = 4\nalley 0 4 1 = 0\n"
        + "alley 1 4 2 = 1\nalley 4 2 3 = 2\nalley 4 3 6 = 3\nlot 0 0 10100 0 0 = 0\nlot 1 0 10100 0 0 = 1\n";

    public static void main(String[] args) {
        driveBeyond();
        driveRefusals();
        driveBegins();
        driveGaps();
        driveTakes();
        driveLeaves();
        planBeyond();
        planKind();
        planHowMany();
        planRefusals();
        planMissing();
        soonest();
        firstByNumbers();
        planChangesNothing();
        planned();
        Due.end();
    }

    private static void driveBeyond() {
        Script.is("9: BEYOND: LOT, PLACE", PENNED, """
            drive -1 2 = BEYOND
            drive 1 2 = BEYOND
            drive MIN 2 = BEYOND
            drive MAX 2 = BEYOND
            drive 0 -1 = BEYOND
            drive 0 7 = BEYOND
            drive 0 MIN = BEYOND
            drive 0 MAX = BEYOND
            drive 1 7 = BEYOND
            drive 0 6 = 3
            """);
        Script.is("9: BEYOND ahead of NO", STAR, """
            lot 0 0 10100 0 0 = 0
            drive 0 7 = BEYOND
            drive 1 0 = BEYOND
            drive 0 5 = 1
            drive 0 7 = BEYOND
            drive 0 -1 = BEYOND
            """);
    }

    private static void driveRefusals() {
        Script.is("9: NO: it is on its way, or there", STAR, """
            lot 0 0 10100 0 0 = 0
            drive 0 0 = NO
            drive 0 1 = 1
            drive 0 1 = NO
            drive 0 0 = NO
            drive 0 2 = NO
            run 1 = 1
            drive 0 1 = NO
            drive 0 0 = 2
            """);
        Script.is("9: NO: the PLACE has a LOT, there or on its way to it", PENNED, """
            lot 0 0 10100 0 0 = 1
            drive 1 1 = NO
            drive 0 0 = NO
            drive 1 2 = 2
            drive 0 2 = NO
            run 1 = 1
            drive 0 2 = NO
            """);
        Script.is("9: NO: it is at a HOOK", STAR, """
            lot 0 0 10100 0 0 = 0
            drive 0 5 = 1
            drive 0 1 = NO
            run 1 = 1
            drive 0 1 = NO
            drive 0 5 = NO
            drive 0 0 = NO
            count 8 = 1
            """);
        Script.is("9: from one HOOK to another: NO", STAR, """
            place 3 = 7
            alley 5 7 1 = 6
            lot 0 0 10100 0 0 = 0
            drive 0 5 = 1
            run 1 = 1
            drive 0 7 = NO
            """);
        Script.is("9: MISSING: there is no WAY; NO ahead of it", STAR, """
            place 1 = 7
            place 0 = 8
            lot 0 0 10100 0 0 = 0
            drive 0 7 = MISSING
            look 0 5 = 0
            lot 8 0 10100 0 0 = 1
            drive 0 8 = NO
            drive 1 0 = NO
            drive 1 8 = NO
            drive 1 7 = MISSING
            drive 0 5 = 1
            drive 0 7 = NO
            run 1 = 1
            drive 0 7 = NO
            """);
    }

    private static void driveBegins() {
        Script.is("9, Terms 3: it begins in the open minute, if the ALLEYS are free", STAR, """
            run 7 = 0
            lot 0 0 10100 0 0 = 0
            drive 0 6 = 8
            run 1 = 1
            drive 0 5 = 10
            """);
        Script.is("9, Terms 3: in the least minute for which the ALLEY is free: behind the last one that is taken", """
            place 0 = 0
            place 3 = 1
            alley 0 1 30 = 0
            lot 0 0 10100 0 0 = 0
            drive 0 1 = 30
            lot 0 0 10100 0 0 = 1
            drive 1 1 = 60
            run 29 = 0
            lot 0 0 10100 0 0 = 2
            drive 2 1 = 90
            run 1 = 1
            lot 0 0 10100 0 0 = 3
            drive 3 1 = 120
            run 29 = 0
            run 1 = 1
            run 30 = 1
            run 29 = 0
            run 1 = 1
            lot 0 0 10100 0 0 = 4
            drive 4 1 = 150
            """);
        Script.is("9, Terms 3: both ways through one ALLEY don't meet", """
            place 0 = 0
            place 0 = 1
            place 1 = 2
            alley 0 2 4 = 0
            alley 1 2 1 = 1
            lot 0 0 10100 0 0 = 0
            lot 1 0 10100 0 0 = 1
            drive 0 2 = 4
            drive 1 0 = 8
            """);
        Script.is("9, Terms 3: of a WAY of two, the second ALLEY alone is taken: it waits at its PLACE", """
            place 0 = 0
            place 1 = 1
            place 3 = 2
            place 0 = 3
            alley 0 1 3 = 0
            alley 1 2 4 = 1
            alley 3 1 1 = 2
            lot 0 0 10100 0 0 = 0
            lot 3 0 10100 0 0 = 1
            drive 1 2 = 5
            drive 0 2 = 9
            look 0 7 = 9
            lot 0 0 10100 0 0 = 2
            drive 2 1 = 8
            """);
    }

    private static void driveGaps() {
        Script.is("9, Terms 3: a gap of just as many minutes is enough", """
            place 0 = 0
            place 1 = 1
            place 3 = 2
            place 0 = 3
            place 0 = 4
            alley 1 2 3 = 0
            alley 0 1 6 = 1
            alley 3 1 3 = 2
            alley 4 1 1 = 3
            lot 0 0 10100 0 0 = 0
            lot 3 0 10100 0 0 = 1
            lot 4 0 10100 0 0 = 2
            drive 0 2 = 9
            drive 2 1 = 1
            run 1 = 1
            drive 1 2 = 12
            drive 2 2 = 4
            """);
        Script.is("9, Terms 3: 0 .. 2 and 6 .. 8 are taken, 3 .. 5 is free", """
            place 1 = 0
            place 3 = 1
            place 0 = 2
            place 0 = 3
            place 0 = 4
            alley 0 1 3 = 0
            alley 2 0 6 = 1
            alley 3 0 3 = 2
            alley 4 0 1 = 3
            lot 4 0 10100 0 0 = 0
            drive 0 0 = 1
            run 1 = 1
            lot 2 0 10100 0 0 = 1
            lot 3 0 10100 0 0 = 2
            drive 1 1 = 10
            drive 0 1 = 4
            drive 2 1 = 7
            """);
        Script.is("9, Terms 3: 0 .. 2 and 5 .. 7 are taken, 3 .. 4 is a minute too few", """
            place 1 = 0
            place 3 = 1
            place 0 = 2
            place 0 = 3
            place 0 = 4
            alley 0 1 3 = 0
            alley 2 0 5 = 1
            alley 3 0 3 = 2
            alley 4 0 1 = 3
            lot 4 0 10100 0 0 = 0
            drive 0 0 = 1
            run 1 = 1
            lot 2 0 10100 0 0 = 1
            lot 3 0 10100 0 0 = 2
            drive 1 1 = 9
            drive 0 1 = 4
            drive 2 1 = 12
            """);
        Script.is("9, Terms 3: put off by a later ALLEY, it may be put off again by an earlier one", """
            place 0 = 0
            place 1 = 1
            place 1 = 2
            place 3 = 3
            place 0 = 4
            place 0 = 5
            alley 0 1 2 = 0
            alley 1 2 2 = 1
            alley 2 3 2 = 2
            alley 4 2 1 = 3
            alley 5 1 2 = 4
            lot 0 0 10100 0 0 = 0
            lot 4 0 10100 0 0 = 1
            lot 5 0 10100 0 0 = 2
            drive 1 3 = 3
            drive 2 2 = 4
            drive 0 3 = 8
            """);
    }

    private static void driveTakes() {
        Script.is("9, Terms 3: an ALLEY is taken only while the LOT is in it: m minutes, then the next one at once", """
            place 0 = 0
            place 1 = 1
            place 1 = 2
            place 0 = 3
            place 3 = 4
            alley 0 1 5 = 0
            alley 1 2 7 = 1
            alley 1 4 1 = 2
            alley 2 4 1 = 3
            lot 0 0 10100 0 0 = 0
            drive 0 2 = 7
            lot 0 0 10100 0 0 = 1
            drive 1 1 = 10
            run 4 = 0
            """);
        Script.is("9, Terms 3: what is at PLACES between doesn't matter", PENNED, """
            lot 0 0 10100 0 0 = 1
            drive 0 2 = 3
            run 2 = 1
            look 0 5 = 2
            look 1 5 = 0
            """);
        Script.is("9: 24 LOTS by one ALLEY, one behind the other", "place 0 = 0\nplace 3 = 1\nalley 0 1 30 = 0\n",
            drivesOfAll(), "count 5 = 24\nrun 720 = 24\ncount 5 = 0\ncount 8 = 24");
        Script.is("9: the first of 24 LOTS comes back by the ALLEY behind all the others", """
            place 0 = 0
            place 1 = 1
            place 3 = 2
            alley 0 1 30 = 0
            alley 1 2 1 = 1
            lot 0 0 10100 0 0 = 0
            drive 0 1 = 30
            """, Script.each(1, 23, "lot 0 0 10100 0 0 = $\ndrive $ 2"), "look 23 7 = 721\nrun 30 = 1\n"
                + "plan 1 2 = NO\ndrive 0 0 = 750");
        Script.is("9: to and fro by one ALLEY, more often than there are LOTS", "place 1 = 0\nplace 0 = 1\n"
            + "alley 0 1 3 = 0\nlot 1 0 10100 0 0 = 0\n",
            "drive 0 0\nrun 3 = 1\ndrive 0 1\nrun 3 = 1\n".repeat(30), """
            drive 0 0 = 183
            lot 1 0 10100 0 0 = 1
            run 3 = 1
            drive 0 1 = NO
            place 3 = 2
            alley 0 2 1 = 1
            drive 1 2 = 187
            drive 0 1 = 189
            """);
    }

    private static String drivesOfAll() {
        StringBuilder all = new StringBuilder();
        for (int i = 0; i < 24; i++) {
            all.append("lot 0 0 10100 0 0 = ").append(i).append("\n"
                + "drive ").append(i).append(" 1 = ").append(30 * i + 30).append('\n');
        }
        return all.toString();
    }

    private static void driveLeaves() {
        Script.is("9, Terms 3: it has left its PLACE as it is told, though it begins later", """
            place 0 = 0
            place 3 = 1
            alley 0 1 9 = 0
            lot 0 0 10100 0 0 = 0
            drive 0 1 = 9
            lot 0 0 10100 0 0 = 1
            drive 1 1 = 18
            look 1 5 = NONE
            lot 0 0 10100 0 0 = 2
            lay = 2
            row 0 = 1
            row 1 = 0
            """);
        Script.is("9, 30, Terms 3: it is there in the minute behind the last ALLEY's last one", """
            place 0 = 0
            place 1 = 1
            alley 0 1 30 = 0
            lot 0 0 10100 0 0 = 0
            drive 0 1 = 30
            run 29 = 0
            look 0 5 = NONE
            water 0 = NO
            run 1 = 1
            look 0 5 = 1
            water 0 = 30
            """);
    }

    private static void planBeyond() {
        Script.is("12: BEYOND: LOTS (bits)", FIVE, """
            plan 32 32 = BEYOND
            plan 33 96 = BEYOND
            plan MIN 32 = BEYOND
            plan -1 32 = BEYOND
            plan 1073741825 96 = BEYOND
            plan MAX 32 = BEYOND
            plan 16 512 = 1
            """);
        Script.is("12: BEYOND: PLACES (bits)", FIVE, """
            plan 1 1024 = BEYOND
            plan 3 1056 = BEYOND
            plan 1 MIN = BEYOND
            plan 1 -1 = BEYOND
            plan 1 1073741824 = BEYOND
            plan 1 MAX = BEYOND
            plan 1 32 = 1
            """);
        Script.is("12, Terms 1: the last LOT and the last PLACE that there is room for", "place 0 = 0\nplace 3 = 1\n"
            + "alley 0 1 1 = 0\n",
            Script.each(2, 13, "place 1 = $"), "alley 0 13 1 = 1\n", Script.each(0, 22, "lot 0 0 10100 0 0 = $\n"
                + "drive $ 1\nrun 1 = 1"), """
            lot 0 0 10100 0 0 = 23
            plan 16777216 8192 = BEYOND
            plan 8388608 16384 = BEYOND
            plan 8388608 8192 = 24
            planned 0 0 = 23
            planned 0 1 = 13
            """);
        Script.is("12: BEYOND ahead of KIND, NO and MISSING", FIVE, """
            plan 32 1 = BEYOND
            plan 32 0 = BEYOND
            plan 0 1024 = BEYOND
            plan 63 1024 = BEYOND
            plan 0 1025 = BEYOND
            """);
    }

    private static void planKind() {
        Script.is("12: KIND: one that is no PEN: CHUTE, SCALE, HOOK, one of several", STAR, """
            lot 0 0 10100 0 0 = 0
            lot 6 0 10100 0 0 = 1
            plan 1 1 = KIND
            plan 1 8 = KIND
            plan 1 16 = KIND
            plan 1 32 = KIND
            plan 1 64 = KIND
            plan 3 10 = KIND
            plan 3 68 = KIND
            plan 3 6 = 2
            """);
        Script.is("12: KIND ahead of NO", STAR, """
            lot 0 0 10100 0 0 = 0
            plan 0 1 = KIND
            plan 0 10 = KIND
            plan 1 10 = KIND
            drive 0 5 = 1
            plan 1 8 = KIND
            run 1 = 1
            plan 1 32 = KIND
            """);
    }

    private static void planHowMany() {
        Script.is("12, Terms 3: 1 to 4 LOTS; NO: how many", FIVE, """
            plan 0 0 = NO
            plan 31 992 = NO
            plan 1 32 = 1
            planned 1 0 = BEYOND
            plan 15 480 = 1
            planned 3 0 = 3
            planned 3 1 = 8
            planned 4 0 = BEYOND
            plan 30 960 = 1
            planned 3 0 = 4
            planned 3 1 = 9
            """);
        Script.is("12, Terms 3: as many PENS; NO: how many", FIVE, """
            plan 1 0 = NO
            plan 0 32 = NO
            plan 1 96 = NO
            plan 3 32 = NO
            plan 7 96 = NO
            plan 15 992 = NO
            plan 31 480 = NO
            plan 15 224 = NO
            plan 3 96 = 1
            """);
    }

    private static void planRefusals() {
        Script.is("12: NO: a LOT on its way or at a HOOK", STAR, """
            lot 0 0 10100 0 0 = 0
            lot 6 0 10100 0 0 = 1
            drive 0 5 = 1
            plan 1 2 = NO
            plan 3 6 = NO
            plan 2 2 = 2
            run 1 = 1
            plan 1 2 = NO
            plan 3 6 = NO
            plan 2 2 = 3
            """);
        Script.is("12: NO: a PEN with a LOT, there, on its way to it, or its own", STAR, """
            lot 0 0 10100 0 0 = 0
            lot 6 0 10100 0 0 = 1
            drive 0 1 = 1
            plan 2 2 = NO
            run 1 = 1
            plan 2 2 = NO
            plan 1 2 = NO
            plan 3 6 = NO
            plan 2 4 = 3
            drive 0 0 = 2
            plan 2 2 = 3
            """);
        Script.is("12: a PEN 0 with a LOT; a LOT at a SCALE and in a PEN", """
            place 1 = 0
            place 0 = 1
            place 2 = 2
            place 1 = 3
            alley 1 0 1 = 0
            alley 1 2 1 = 1
            alley 1 3 1 = 2
            lot 1 0 10100 0 0 = 0
            drive 0 0 = 1
            run 1 = 1
            lot 1 0 10100 0 0 = 1
            plan 2 1 = NO
            drive 1 2 = 2
            run 1 = 1
            plan 1 8 = 4
            plan 2 8 = 4
            """);
        Script.is("12: NO ahead of MISSING", STAR, """
            place 1 = 7
            place 1 = 8
            lot 0 0 10100 0 0 = 0
            plan 1 384 = NO
            plan 0 0 = NO
            drive 0 5 = 1
            plan 1 128 = NO
            run 1 = 1
            plan 1 128 = NO
            """);
    }

    private static void planMissing() {
        Script.is("12: MISSING: there is no such way", STAR, """
            place 1 = 7
            place 0 = 8
            lot 0 0 10100 0 0 = 0
            lot 8 0 10100 0 0 = 1
            plan 1 128 = MISSING
            plan 2 2 = MISSING
            plan 3 6 = MISSING
            plan 3 130 = MISSING
            alley 8 7 30 = 6
            plan 3 6 = MISSING
            plan 3 130 = 30
            planned 0 0 = 0
            planned 0 1 = 1
            planned 1 0 = 1
            planned 1 1 = 7
            """);
        Script.is("12: MISSING, if four LOTS have no way to one of four PENS", FIVE, """
            plan 15 992 = NO
            plan 15 736 = MISSING
            plan 15 480 = 1
            """);
    }

    private static void soonest() {
        Script.is("12, Terms 3: the last one is there soonest: who begins by the neck matters", NECK, """
            plan 3 12 = 7
            planned 0 0 = 0
            planned 0 1 = 3
            planned 1 0 = 1
            planned 1 1 = 2
            """);
        Script.is("12, Terms 3: the pens the other way about are soonest", """
            place 0 = 0
            place 0 = 1
            place 1 = 2
            place 1 = 3
            alley 0 2 9 = 0
            alley 0 3 2 = 1
            alley 1 2 2 = 2
            alley 1 3 9 = 3
            lot 0 0 10100 0 0 = 0
            lot 1 0 10100 0 0 = 1
            plan 3 12 = 2
            planned 0 0 = 0
            planned 0 1 = 3
            planned 1 0 = 1
            planned 1 1 = 2
            """);
        Script.is("12, Terms 3: the second LOT told first is soonest", """
            place 0 = 0
            place 0 = 1
            place 1 = 2
            place 1 = 3
            place 1 = 4
            place 1 = 5
            alley 0 4 3 = 0
            alley 1 4 1 = 1
            alley 4 5 5 = 2
            alley 5 2 1 = 3
            alley 5 3 1 = 4
            lot 0 0 10100 0 0 = 0
            lot 1 0 10100 0 0 = 1
            plan 3 12 = 12
            planned 0 0 = 1
            planned 0 1 = 2
            planned 1 0 = 0
            planned 1 1 = 3
            drive 0 2 = 9
            drive 1 3 = 14
            """);
        Script.is("12, Terms 3: the further PEN first is soonest", """
            place 0 = 0
            place 0 = 1
            place 1 = 2
            place 1 = 3
            place 1 = 4
            alley 0 4 3 = 0
            alley 1 4 3 = 1
            alley 4 2 4 = 2
            alley 2 3 4 = 3
            lot 0 0 10100 0 0 = 0
            lot 1 0 10100 0 0 = 1
            plan 3 12 = 11
            planned 0 0 = 0
            planned 0 1 = 3
            planned 1 0 = 1
            planned 1 1 = 2
            plan 3 20 = 7
            planned 0 0 = 0
            planned 0 1 = 2
            planned 1 0 = 1
            planned 1 1 = 4
            """);
        Script.is("12, Terms 3: an ALLEY that a DRIVE has taken counts", NECK, """
            place 0 = 5
            place 3 = 6
            alley 4 6 1 = 4
            alley 5 6 1 = 5
            drive 0 6 = 2
            lot 0 0 10100 0 0 = 2
            plan 4 4 = 5
            drive 1 2 = 5
            plan 4 8 = 8
            plan 4 16 = 2
            """);
        Script.is("12, Terms 3: told one behind the other by one ALLEY: each behind the one ahead of it", """
            place 1 = 0
            place 1 = 1
            place 1 = 2
            place 1 = 3
            place 1 = 4
            place 0 = 5
            place 0 = 6
            place 0 = 7
            place 0 = 8
            place 1 = 9
            alley 4 0 1 = 0
            alley 4 1 1 = 1
            alley 4 2 1 = 2
            alley 4 3 1 = 3
            alley 9 4 10 = 4
            alley 5 9 1 = 5
            alley 6 9 2 = 6
            alley 7 9 3 = 7
            alley 8 9 4 = 8
            """, Script.each(5, 8, "lot $ 0 10100 0 0"), """
            plan 15 15 = 42
            planned 0 0 = 0
            planned 0 1 = 0
            planned 1 0 = 1
            planned 1 1 = 1
            planned 2 0 = 2
            planned 2 1 = 2
            planned 3 0 = 3
            planned 3 1 = 3
            plan 12 15 = NO
            plan 12 3 = 24
            run 100 = 0
            plan 10 9 = 123
            planned 0 0 = 1
            planned 0 1 = 0
            planned 1 0 = 3
            planned 1 1 = 3
            """);
    }

    private static void firstByNumbers() {
        Script.is("12, Terms 3: of these the first by numbers: LOT of the first DRIVE", FIVE, """
            plan 5 160 = 1
            planned 0 0 = 0
            planned 0 1 = 5
            planned 1 0 = 2
            planned 1 1 = 7
            """);
        Script.is("12, Terms 3: its PEN, LOT of the second one, and so on", """
            place 0 = 0
            place 0 = 1
            place 0 = 2
            place 1 = 3
            place 1 = 4
            place 1 = 5
            alley 0 5 3 = 0
            alley 0 4 3 = 1
            alley 1 3 3 = 2
            alley 1 4 3 = 3
            alley 1 5 3 = 4
            alley 2 3 3 = 5
            alley 2 5 3 = 6
            lot 2 0 10100 0 0 = 0
            lot 1 0 10100 0 0 = 1
            lot 0 0 10100 0 0 = 2
            plan 7 56 = 3
            planned 0 0 = 0
            planned 0 1 = 3
            planned 1 0 = 1
            planned 1 1 = 4
            planned 2 0 = 2
            planned 2 1 = 5
            """);
        Script.is("12, Terms 3: a later one that is no sooner doesn't take its place", NECK, """
            plan 1 4 = 4
            planned 0 0 = 0
            planned 0 1 = 2
            plan 2 16 = 2
            planned 0 0 = 1
            planned 0 1 = 4
            """);
    }

    private static void planChangesNothing() {
        Script.is("12: nothing changes", NECK, """
            plan 3 12 = 7
            plan 3 12 = 7
            look 0 5 = 0
            look 1 6 = NONE
            count 5 = 0
            run 1 = 0
            plan 3 12 = 8
            drive 1 3 = 9
            drive 0 2 = 5
            """);
        Script.is("12: what was planned is what the DRIVES do", NECK, """
            plan 3 12 = 7
            drive 0 3 = 7
            drive 1 2 = 5
            """);
    }

    private static void planned() {
        Script.is("13: MISSING: no plan yet, ahead of BEYOND and NO", FIVE, """
            planned 0 0 = MISSING
            planned -1 0 = MISSING
            planned 0 2 = MISSING
            planned MAX MIN = MISSING
            """);
        Script.is("13: a plan that was refused is none", FIVE, """
            plan 32 32 = BEYOND
            planned 0 0 = MISSING
            plan 1 1 = KIND
            planned 0 0 = MISSING
            plan 0 0 = NO
            planned 0 0 = MISSING
            plan 1 64 = MISSING
            planned 0 0 = MISSING
            """);
        Script.is("13: of the latest that wasn't refused", FIVE, """
            plan 7 224 = 1
            plan 2 64 = 1
            plan 32 32 = BEYOND
            plan 1 1 = KIND
            plan 31 992 = NO
            plan 15 736 = MISSING
            planned 0 0 = 1
            planned 0 1 = 6
            planned 1 0 = BEYOND
            """);
        Script.is("13: BEYOND: i; ahead of NO", FIVE, """
            plan 3 96 = 1
            planned -1 0 = BEYOND
            planned 2 0 = BEYOND
            planned MIN 0 = BEYOND
            planned MAX 0 = BEYOND
            planned 2 2 = BEYOND
            planned -1 -1 = BEYOND
            planned 0 0 = 0
            planned 1 0 = 1
            """);
        Script.is("13: NO: what", FIVE, """
            plan 3 96 = 1
            planned 0 -1 = NO
            planned 0 2 = NO
            planned 1 MIN = NO
            planned 1 MAX = NO
            planned 0 1 = 5
            planned 1 1 = 6
            """);
        Script.is("13: it stays as it was planned, though LOTS are driven, and minutes go by", FIVE, """
            plan 3 96 = 1
            drive 0 5 = 1
            run 9 = 1
            planned 0 0 = 0
            planned 1 1 = 6
            """);
    }
}
