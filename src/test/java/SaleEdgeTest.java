/** The boundary cases of promises 19 to 25, and of part 4 of the terms: see, bid, sell, weigh, off, test, account. */
public final class SaleEdgeTest {
    private static final String STAR = LotEdgeTest.STAR;
    // A plain lot 0 of owner 0 with 5 heads of 100 pounds, mark 1234, in the pen 1, in minute 1.
    private static final String PENNED = LotEdgeTest.PENNED;
    private static final String SEEN = PENNED + Script.each(0, 4, "see $ 0 = 1");
    // Sold to buyer 2 for 100 a hundred pounds, on the scale 3, in minute 3.
    private static final String ON_SCALE = SEEN + "bid 2 0 100 = 1\nsell 0 = 2\ndrive 0 3 = 3\nrun 2 = 1\n";

    public static void main(String[] args) {
        seeRefusals();
        seeTwice();
        bidRefusals();
        bidNotNow();
        bidPrices();
        bidOrder();
        bidCounts();
        barred();
        sellRefusals();
        soldToWhom();
        weighRefusals();
        weighTooEarly();
        weightEdges();
        weightDock();
        moneyEdges();
        moneyOnce();
        offEdges();
        testRefusals();
        testEdges();
        testSinceLast();
        accounts();
        Due.end();
    }

    private static void seeRefusals() {
        Script.is("19, Terms 4: BUYERS 0 .. 4; BEYOND: BUYER, LOT", PENNED, """
            see -1 0 = BEYOND
            see 5 0 = BEYOND
            see MIN 0 = BEYOND
            see MAX 0 = BEYOND
            see 0 -1 = BEYOND
            see 0 1 = BEYOND
            see 0 MIN = BEYOND
            see 0 MAX = BEYOND
            see 0 0 = 1
            see 4 0 = 1
            """);
        Script.is("19: NO: it isn't in a PEN: at a CHUTE, on its way, on a SCALE, at a HOOK", STAR, """
            lot 0 0 50100 0 0 = 0
            see 0 0 = NO
            drive 0 3 = 1
            see 0 0 = NO
            run 1 = 1
            see 0 0 = NO
            drive 0 5 = 3
            run 2 = 1
            see 0 0 = NO
            """);
        Script.is("19: what it was not shown in a PEN, it has not SEEN", STAR, """
            lot 0 0 50100 0 0 = 0
            see 3 0 = NO
            drive 0 1 = 1
            see 3 0 = NO
            run 1 = 1
            bid 3 0 5 = NO
            see 3 0 = 1
            bid 3 0 5 = 1
            """);
        Script.is("19: BEYOND ahead of NO", STAR, "lot 0 0 50100 0 0 = 0\nsee 5 0 = BEYOND\n"
            + "see -1 0 = BEYOND\nsee 0 1 = BEYOND");
        Script.is("19: NO, if it has SEEN it already too", PENNED, """
            see 3 0 = 1
            drive 0 3 = 3
            see 3 0 = NO
            run 2 = 1
            see 3 0 = NO
            see 2 0 = NO
            """);
    }

    private static void seeTwice() {
        Script.is("19: 1, 0 if it has SEEN it already; each BUYER and each LOT for itself; a SOLD one, a HELD one",
            PENNED, """
            see 0 0 = 1
            see 0 0 = 0
            see 4 0 = 1
            see 4 0 = 0
            see 1 0 = 1
            lot 0 10 50100 0 0 = 1
            drive 1 2 = 2
            run 1 = 1
            see 0 1 = 1
            see 0 1 = 0
            bid 0 0 1 = 1
            sell 0 = 0
            see 2 0 = 1
            see 0 0 = 0
            """);
    }

    private static void bidRefusals() {
        Script.is("20: BEYOND: BUYER, LOT", SEEN, """
            bid -1 0 5 = BEYOND
            bid 5 0 5 = BEYOND
            bid MIN 0 5 = BEYOND
            bid MAX 0 5 = BEYOND
            bid 0 -1 5 = BEYOND
            bid 0 1 5 = BEYOND
            bid 0 MIN 5 = BEYOND
            bid 0 MAX 5 = BEYOND
            bid 0 0 5 = 1
            bid 4 0 5 = 2
            """);
        Script.is("20, Terms 1: KIND: it isn't PLAIN: HELD, THROUGH, MIXED", STAR, """
            lot 0 10 50100 0 0 = 0
            drive 0 1 = 1
            run 1 = 1
            lot 0 20 50100 0 0 = 1
            drive 1 2 = 2
            run 1 = 1
            see 0 0 = 1
            see 0 1 = 1
            bid 0 0 5 = KIND
            bid 0 1 5 = KIND
            hold 0 0 = 1
            bid 0 0 5 = 1
            drive 1 5 = 4
            run 2 = 1
            lot 0 30 50100 0 0 = 2
            drive 2 2 = 5
            run 1 = 1
            see 0 2 = 1
            bid 0 2 5 = KIND
            """);
    }

    private static void bidNotNow() {
        Script.is("20: NO: not SEEN", PENNED, """
            bid 0 0 5 = NO
            see 1 0 = 1
            bid 0 0 5 = NO
            bid 1 0 5 = 1
            see 0 0 = 1
            bid 0 0 5 = 2
            """);
        Script.is("20: NO: it isn't in a PEN: on its way, on a SCALE, at a CHUTE, at a HOOK", SEEN, """
            drive 0 3 = 3
            bid 0 0 5 = NO
            run 2 = 1
            bid 0 0 5 = NO
            drive 0 0 = 4
            run 1 = 1
            bid 0 0 5 = NO
            drive 0 2 = 5
            run 1 = 1
            bid 0 0 5 = 1
            drive 0 5 = 7
            run 2 = 1
            bid 0 0 6 = NO
            sell 0 = 0
            """);
        Script.is("20: NO: it is SOLD", SEEN, "bid 0 0 5 = 1\nsell 0 = 0\nbid 0 0 6 = NO\nbid 1 0 6 = NO\nlook 0 11 = 0");
    }

    private static void bidPrices() {
        Script.is("20, Terms 4: a price (1 .. 9999); NO: price", SEEN, """
            bid 0 0 0 = NO
            bid 0 0 -1 = NO
            bid 0 0 10000 = NO
            bid 0 0 MIN = NO
            bid 0 0 MAX = NO
            sell 0 = MISSING
            bid 0 0 1 = 1
            bid 1 0 9999 = 2
            bid 1 0 10000 = NO
            bid 1 0 0 = NO
            sell 0 = 1
            """);
        Script.is("20, 21: the least price is enough to be SOLD for", SEEN, "bid 4 0 1 = 1\nsell 0 = 4\nlook 0 11 = 4");
    }

    private static void bidOrder() {
        Script.is("20: BEYOND ahead of KIND, KIND ahead of NO", STAR, """
            lot 0 10 50100 0 0 = 0
            bid 5 0 5 = BEYOND
            bid 0 1 0 = BEYOND
            bid -1 0 0 = BEYOND
            bid 0 0 0 = KIND
            bid 0 0 10000 = KIND
            bid 0 0 5 = KIND
            drive 0 1 = 1
            bid 0 0 5 = KIND
            """);
    }

    private static void bidCounts() {
        Script.is("20: how many BIDS stand for the LOT: one a BUYER, five at most", SEEN, """
            bid 3 0 5 = 1
            bid 3 0 6 = 1
            bid 0 0 5 = 2
            bid 4 0 5 = 3
            bid 0 0 1 = 3
            bid 1 0 5 = 4
            bid 2 0 5 = 5
            bid 2 0 9999 = 5
            bid 3 0 5 = 5
            """);
    }

    private static void barred() {
        Script.is("20, Terms 2: BARRED is a BUYER whose number a bar RULE has that HOLDS; NO: BARRED", SEEN, """
            tape 'bar 0'
            rule 0 1000 = 0
            tape 'bar 4 if owner=0'
            rule 0 1000 = 1
            tape 'bar 1 if owner=1'
            rule 0 1000 = 2
            tape 'bar 5'
            rule 0 1000 = 3
            tape 'fee 2'
            rule 0 1000 = 4
            bid 0 0 5 = NO
            bid 4 0 5 = NO
            bid 1 0 5 = 1
            bid 2 0 5 = 2
            bid 3 0 5 = 3
            see 0 0 = 0
            """);
        Script.is("20, Terms 2: any of several bar RULES; a later one that doesn't hold takes nothing away", SEEN, """
            tape 'bar 2'
            rule 0 1000 = 0
            tape 'bar 2 if owner=5'
            rule 0 1000 = 1
            tape 'bar 3'
            rule 0 1000 = 2
            bid 2 0 5 = NO
            bid 3 0 5 = NO
            bid 1 0 5 = 1
            """);
        Script.is("20, Terms 2: a bar RULE with a TEST of buyer is asked for the BUYER", SEEN, """
            tape 'bar 2 if buyer=2'
            rule 0 1000 = 0
            tape 'bar 3 if !buyer=3'
            rule 0 1000 = 1
            tape 'bar 4 if !buyer=0'
            rule 0 1000 = 2
            bid 2 0 5 = NO
            bid 3 0 5 = 1
            bid 4 0 5 = NO
            """);
        Script.is("20, Terms 2: BARRED now: from a minute on, ahead of another one", SEEN, """
            tape 'bar 2'
            rule 2 3 = 0
            bid 2 0 5 = 1
            run 1 = 0
            bid 2 0 6 = NO
            run 1 = 0
            bid 2 0 6 = 1
            """);
        Script.is("20, 21: a BID that came ahead of the bar stands", SEEN, "bid 2 0 5 = 1\ntape 'bar 2'\n"
            + "rule 0 1000 = 0\nbid 2 0 4 = NO\nsell 0 = 2");
    }

    private static void sellRefusals() {
        Script.is("21: BEYOND: LOT", SEEN, "bid 0 0 5 = 1\nsell -1 = BEYOND\nsell 1 = BEYOND\nsell MIN = BEYOND\n"
            + "sell MAX = BEYOND\nsell 0 = 0");
        Script.is("21, Terms 1: KIND: it isn't PLAIN: HELD, THROUGH, MIXED; ahead of MISSING", SEEN, """
            bid 0 0 5 = 1
            hold 0 1 = 0
            sell 0 = KIND
            hold 0 0 = 1
            sell 0 = 0
            lot 0 10 10100 0 0 = 1
            sell 1 = KIND
            lot 6 20 10100 0 0 = 2
            sell 2 = KIND
            drive 2 5
            lot 6 30 10100 0 0 = 3
            sell 3 = KIND
            """);
        Script.is("21: NO: it is SOLD", SEEN, "bid 0 0 5 = 1\nbid 1 0 4 = 2\nsell 0 = 0\nsell 0 = NO\nlook 0 11 = 0\n"
            + "count 7 = 1");
        Script.is("21: MISSING: there is no BID", SEEN, "sell 0 = MISSING\nlook 0 11 = NONE\nbid 0 0 5 = 1\nsell 0 = 0");
        Script.is("21: MISSING: at a CHUTE", STAR, "lot 0 0 50100 0 0 = 0\nsell 0 = MISSING");
    }

    private static void soldToWhom() {
        Script.is("21, Terms 4: to the greatest BID, whoever it is", SEEN, "bid 0 0 5 = 1\nbid 1 0 6 = 2\n"
            + "bid 2 0 5 = 3\nsell 0 = 1");
        Script.is("21, Terms 4: the first and the last BUYER", SEEN, "bid 4 0 6 = 1\nbid 0 0 5 = 2\n"
            + "bid 2 0 5 = 3\nsell 0 = 4");
        Script.is("21, Terms 4: of like ones to the one that came first, not of the least number", SEEN,
            "bid 3 0 7 = 1\nbid 1 0 7 = 2\nbid 4 0 7 = 3\nsell 0 = 3");
        Script.is("21, Terms 4: a BID that stands for an earlier one came as it was told", SEEN, """
            bid 1 0 7 = 1
            bid 3 0 7 = 2
            bid 1 0 7 = 2
            sell 0 = 3
            """);
        Script.is("21, Terms 4: a later BID stands for its earlier one, lower too", SEEN, """
            bid 1 0 9 = 1
            bid 3 0 7 = 2
            bid 1 0 6 = 2
            sell 0 = 3
            """);
        Script.is("21, Terms 4: back at the greatest price, it came last", SEEN, """
            bid 1 0 7 = 1
            bid 3 0 7 = 2
            bid 1 0 6 = 2
            bid 1 0 7 = 2
            bid 3 0 7 = 2
            sell 0 = 1
            """);
    }

    private static void weighRefusals() {
        Script.is("22: BEYOND: LOT", ON_SCALE, "weigh -1 = BEYOND\nweigh 1 = BEYOND\n"
            + "weigh MIN = BEYOND\nweigh MAX = BEYOND\nweigh 0 = 500");
        Script.is("22: NO: it isn't on a SCALE: at a CHUTE, on its way, in a PEN, at a HOOK", STAR, """
            lot 0 0 50100 0 0 = 0
            weigh 0 = NO
            drive 0 1 = 1
            weigh 0 = NO
            run 1 = 1
            weigh 0 = NO
            drive 0 4 = 3
            weigh 0 = NO
            run 2 = 1
            weigh 0 = 500
            drive 0 5 = 5
            run 2 = 1
            weigh 0 = NO
            """);
    }

    private static void weighTooEarly() {
        Script.is("22: NO: a SOLD one, in a PEN, on its way: it gets no MONEY", SEEN, """
            bid 2 0 100 = 1
            sell 0 = 2
            weigh 0 = NO
            look 0 12 = NONE
            drive 0 3 = 3
            weigh 0 = NO
            look 0 12 = NONE
            run 2 = 1
            look 0 12 = NONE
            weigh 0 = 500
            look 0 12 = 500
            """);
    }

    private static String atScale(int heads, int dry) {
        return STAR + "lot 0 0 " + heads + " 0 " + dry + " = 0\ndrive 0 3 = 1\nrun 1 = 1\n";
    }

    private static void weightEdges() {
        Script.is("22, Terms 4: THIRST / 60, cut: 59, 60, 119, 120", atScale(30100, 58), """
            weigh 0 = 300
            run 1 = 0
            weigh 0 = 297
            run 59 = 0
            weigh 0 = 297
            run 1 = 0
            weigh 0 = 294
            """);
        Script.is("22, Terms 4: 1 a head at least: POUNDS less THIRST / 60 is 2, 1, 0, -1", atScale(20100, 5000), """
            run 879 = 0
            look 0 8 = 5880
            weigh 0 = 4
            run 60 = 0
            weigh 0 = 2
            run 60 = 0
            weigh 0 = 2
            run 60 = 0
            weigh 0 = 2
            off 3 -1 = 0
            weigh 0 = 1
            """);
        Script.is("22, Terms 4: 1 at least in all: WEIGHT and OFF are 2, 1, 0, -98", atScale(10100, 0), """
            off 3 -98 = 0
            weigh 0 = 2
            off 3 -99 = -98
            weigh 0 = 1
            tape 'dock 1'
            rule 0 1000 = 0
            weigh 0 = 1
            tape 'dock 99'
            rule 0 1000 = 1
            weigh 0 = 1
            off 3 0 = -99
            weigh 0 = 1
            off 3 99 = 0
            weigh 0 = 100
            """);
        Script.is("22, Terms 1: the greatest WEIGHT", atScale(2002000, 0), "off 3 99 = 0\nweigh 0 = 400099\n"
            + "off 3 -99 = 99\nweigh 0 = 399901");
        Script.is("22, Terms 4: the OFF of the SCALE that it is on", atScale(10100, 0), """
            off 4 7 = 0
            weigh 0 = 100
            drive 0 4 = 3
            run 2 = 1
            weigh 0 = 107
            """);
    }

    private static void weightDock() {
        Script.is("22, Terms 4: less what dock says: a head, with 1 at least", atScale(20100, 0), """
            tape 'dock 98'
            rule 0 1000 = 0
            weigh 0 = 4
            tape 'dock 99'
            rule 0 1000 = 1
            weigh 0 = 2
            tape 'dock 100'
            rule 0 1000 = 2
            weigh 0 = 2
            tape 'dock 9999'
            rule 0 1000 = 3
            weigh 0 = 2
            tape 'dock 0'
            rule 2 1000 = 4
            weigh 0 = 2
            run 1 = 0
            weigh 0 = 200
            """);
        Script.is("22, Terms 4: THIRST and dock together come to 1 a head", atScale(20100, 3000), """
            tape 'dock 48'
            rule 0 1000 = 0
            weigh 0 = 4
            tape 'dock 49'
            rule 0 1000 = 1
            weigh 0 = 2
            tape 'dock 50'
            rule 0 1000 = 2
            weigh 0 = 2
            """);
    }

    private static void moneyEdges() {
        Script.is("22, Terms 4: price times WEIGHT / 100, cut", SEEN, """
            bid 2 0 33 = 1
            sell 0 = 2
            drive 0 3 = 3
            run 2 = 1
            off 3 3 = 0
            weigh 0 = 503
            look 0 12 = 165
            """);
        Script.is("22, Terms 4: cut ahead of the fee: 99 / 100 less 5, not -4.01", SEEN, """
            tape 'dock 99'
            rule 0 1000 = 0
            tape 'fee 1'
            rule 0 1000 = 1
            bid 2 0 1 = 1
            sell 0 = 2
            drive 0 3 = 3
            run 2 = 1
            off 3 94 = 0
            weigh 0 = 99
            look 0 12 = -5
            """);
        Script.is("22, Terms 4: less HEADS times what fee says now, for the BUYER", SEEN, """
            tape 'fee 7'
            rule 0 3 = 0
            tape 'fee 9'
            rule 0 1000 = 1
            tape 'fee 20 if buyer=2'
            rule 3 4 = 2
            tape 'fee 30 if buyer=1'
            rule 0 1000 = 3
            bid 2 0 100 = 1
            sell 0 = 2
            drive 0 3 = 3
            run 2 = 1
            weigh 0 = 500
            look 0 12 = 400
            """);
        Script.is("22, Terms 4: the greatest MONEY, and its ACCOUNT", STAR, """
            write 0 0 = 1
            lot 0 0 2002000 0 0 = 0
            drive 0 1 = 1
            run 1 = 1
            see 0 0 = 1
            bid 0 0 9999 = 1
            sell 0 = 0
            drive 0 3 = 3
            run 2 = 1
            off 3 99 = 0
            weigh 0 = 400099
            look 0 12 = 40005899
            account 0 = 40005899
            """);
        Script.is("22, Terms 4: the least MONEY", STAR, """
            tape 'fee 9999'
            rule 0 1000 = 0
            tape 'dock 9999'
            rule 0 1000 = 1
            write 0 0 = 1
            lot 0 0 2000100 0 0 = 0
            drive 0 1 = 1
            run 1 = 1
            see 0 0 = 1
            bid 0 0 1 = 1
            sell 0 = 0
            drive 0 3 = 3
            run 2 = 1
            off 3 -99 = 0
            weigh 0 = 101
            look 0 12 = -1999799
            account 0 = -1999799
            test 3 = 1
            look 0 12 = -1999798
            """);
    }

    private static void moneyOnce() {
        Script.is("22, Terms 4: if it is SOLD: not while there are BIDS alone", SEEN, """
            bid 2 0 100 = 1
            drive 0 3 = 3
            run 2 = 1
            weigh 0 = 500
            look 0 12 = NONE
            sell 0 = 2
            look 0 12 = NONE
            weigh 0 = 500
            look 0 12 = 500
            """);
        Script.is("22, Terms 4: and was not WEIGHED since: once", ON_SCALE, """
            weigh 0 = 500
            look 0 12 = 500
            off 3 50 = 0
            weigh 0 = 550
            look 0 12 = 500
            drive 0 4 = 5
            run 2 = 1
            off 4 -50 = 0
            weigh 0 = 450
            look 0 12 = 500
            test 4 = 0
            look 0 12 = 500
            test 3 = 1
            look 0 12 = 450
            weigh 0 = 500
            look 0 12 = 450
            """);
    }

    private static void offEdges() {
        Script.is("23, Terms 4: OFF (-99 .. 99; 0 at first); NO: 0", STAR, """
            off 3 -100 = 0 by NO
            off 3 100 = 0 by NO
            off 3 MIN = 0 by NO
            off 3 MAX = 0 by NO
            off 3 -99 = 0
            off 3 99 = -99
            off 3 100 = 0 by NO
            off 3 0 = 99
            off 4 5 = 0
            off 3 0 = 0
            """);
        Script.is("23: BEYOND: 0; KIND: 0; BEYOND ahead of KIND, KIND ahead of NO", STAR, """
            off -1 5 = 0 by BEYOND
            off 7 5 = 0 by BEYOND
            off MIN 5 = 0 by BEYOND
            off MAX 5 = 0 by BEYOND
            off 7 100 = 0 by BEYOND
            off 0 5 = 0 by KIND
            off 1 5 = 0 by KIND
            off 5 5 = 0 by KIND
            off 1 100 = 0 by KIND
            off 3 5 = 0
            off 1 -100 = 0 by KIND
            off 3 5 = 5
            """);
        Script.is("23, 36: an OFF that is like a refusal's number is none", STAR, Script.each(2, 8, "off 3 -$\n"
            + "off 3 0 = -$"), Script.each(2, 8, "status -$ = 0"));
        Script.is("23, Terms 1: the SCALE 0, the SCALE 13", "place 2 = 0..13\n", "off 0 1 = 0\noff 13 2 = 0\n"
            + "off 0 3 = 1\noff 13 4 = 2\noff 14 4 = 0 by BEYOND");
    }

    private static void testRefusals() {
        Script.is("24: BEYOND; KIND", ON_SCALE, """
            weigh 0 = 500
            off 3 9 = 0
            test -1 = BEYOND
            test 7 = BEYOND
            test MIN = BEYOND
            test MAX = BEYOND
            test 0 = KIND
            test 1 = KIND
            test 5 = KIND
            test 6 = KIND
            off 3 9 = 9
            test 3 = 1
            """);
    }

    private static void testEdges() {
        Script.is("24: none: no LOTS at all", STAR, "off 3 9 = 0\ntest 3 = 0\noff 3 0 = 0");
        Script.is("24, Terms 4: OFF 0: none", ON_SCALE, "weigh 0 = 500\ntest 3 = 0\nlook 0 12 = 500");
        Script.is("24, Terms 4: a LOT that was WEIGHED, but got no MONEY", ON_SCALE, """
            lot 0 0 10100 0 0 = 1
            drive 0 1 = 5
            run 2 = 1
            drive 1 3 = 6
            run 1 = 1
            weigh 1 = 100
            off 3 9 = 0
            test 3 = 0
            look 1 12 = NONE
            """);
        Script.is("24, Terms 4: its OFF becomes 0", ON_SCALE, "off 3 9 = 0\nweigh 0 = 509\ntest 3 = 1\nlook 0 12 = 500\n"
            + "weigh 0 = 500\noff 3 0 = 0");
        Script.is("24, Terms 4: with WEIGHT as it was told less that OFF: of the TEST, not of the WEIGHT", ON_SCALE, """
            off 3 9 = 0
            weigh 0 = 509
            off 3 -99 = 9
            test 3 = 1
            look 0 12 = 608
            """);
        Script.is("24, Terms 4: 1 at least: WEIGHT less OFF is 2, 1, 0, -98", lightLots());
        Script.is("24, Terms 4: price and what fee said as they were, for the OWNER that it has now", ON_SCALE, """
            tape 'fee 10'
            rule 0 4 = 0
            weigh 0 = 500
            look 0 12 = 450
            run 1 = 0
            tape 'fee 77'
            rule 0 1000 = 1
            judge 0 5 = 1
            off 3 -1 = 0
            test 3 = 1
            look 0 12 = 451
            account 5 = 451
            """);
    }

    // Four lots of one head, one behind the other, sold for 100: two are weighed as 100, two as 1.
    private static String lightLots() {
        return STAR + soldOnScale(0, 3, 1) + "weigh 0 = 100\noff 3 98 = 0\ntest 3 = 1\nlook 0 12 = 2\n"
            + soldOnScale(1, 4, 4) + "weigh 1 = 100\noff 4 99 = 0\ntest 4 = 1\nlook 1 12 = 1\n"
            + "drive 0 5 = 8\nrun 2 = 1\ndrive 1 5 = 10\nrun 2 = 1\ntape 'dock 99'\nrule 0 1000 = 0\n"
            + soldOnScale(2, 3, 11) + "weigh 2 = 1\noff 3 1 = 0\ntest 3 = 1\nlook 2 12 = 1\n"
            + soldOnScale(3, 4, 14) + "weigh 3 = 1\noff 4 99 = 0\ntest 4 = 1\nlook 3 12 = 1\nlook 0 12 = 2\nlook 1 12 = 1";
    }

    private static String soldOnScale(int lot, int scale, int minute) {
        return ("lot 0 0 10100 0 0 = $\ndrive $ 1 = " + minute + "\nrun 1 = 1\nsee 0 $ = 1\nbid 0 $ 100 = 1\n"
            + "sell $ = 0\ndrive $ "
            + scale + " = " + (minute + 2) + "\nrun 2 = 1\n").replace("$", String.valueOf(lot));
    }

    private static void testSinceLast() {
        Script.is("24, Terms 4: since its last TEST: none a second time", ON_SCALE, """
            weigh 0 = 500
            off 3 9 = 0
            test 3 = 1
            look 0 12 = 491
            off 3 9 = 0
            test 3 = 0
            look 0 12 = 491
            """);
        Script.is("24, Terms 4: a TEST of another SCALE is none of this one", ON_SCALE, """
            weigh 0 = 500
            off 4 9 = 0
            test 4 = 0
            look 0 12 = 500
            off 3 9 = 0
            test 3 = 1
            look 0 12 = 491
            """);
        Script.is("24, Terms 4: a TEST with OFF 0 is a TEST", ON_SCALE, """
            weigh 0 = 500
            test 3 = 0
            off 3 9 = 0
            test 3 = 0
            look 0 12 = 500
            """);
        Script.is("24, Terms 4: how many LOTS: the one that came since, not the one ahead of the TEST", ON_SCALE, """
            weigh 0 = 500
            off 3 9 = 0
            test 3 = 1
            drive 0 5 = 5
            run 2 = 1
            lot 0 0 50100 0 0 = 1
            drive 1 1 = 6
            run 1 = 1
            see 0 1 = 1
            bid 0 1 100 = 1
            sell 1 = 0
            drive 1 3 = 8
            run 2 = 1
            weigh 1 = 500
            off 3 -9 = 0
            test 3 = 1
            look 0 12 = 491
            look 1 12 = 509
            """);
    }

    private static void accounts() {
        Script.is("25, Terms 1: OWNER 0 .. 5; BEYOND: 0", ON_SCALE, "weigh 0 = 500\nwrite 1234 0 = 1\n", """
            account -1 = 0 by BEYOND
            account 6 = 0 by BEYOND
            account MIN = 0 by BEYOND
            account MAX = 0 by BEYOND
            account 0 = 500
            account 5 = 0
            judge 0 5 = 0
            account 5 = 500
            account 0 = 0
            """);
        Script.is("25, Terms 1, 4: of as many LOTS as there is room for, with the greatest MONEY", STAR,
            "write 0 5 = 1\noff 3 99 = 0\n",
            Script.each(0, 23, """
            lot 0 5 2002000 0 0 = $
            drive $ 1
            run 1 = 1
            see 0 $ = 1
            bid 0 $ 9999 = 1
            sell $ = 0
            drive $ 3
            run 2 = 1
            weigh $ = 400099
            drive $ 5
            run 2 = 1
            """), "account 5 = 960141576\naccount 4 = 0");
        Script.is("25, Terms 4: MONEY of its LOTS that are not in DOUBT; none yet is none", ON_SCALE, """
            write 1234 0 = 1
            account 0 = 0
            weigh 0 = 500
            account 0 = 500
            write 1235 1 = 2
            account 0 = 0
            judge 0 0 = 1
            account 0 = 500
            """);
    }
}
