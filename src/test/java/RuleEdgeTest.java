/** The boundary cases of promises 14 to 18, and of part 2 of the terms: feed, wipe, rule, holds, said. */
public final class RuleEdgeTest {
    // A through lot 0 of owner 3 with 7 heads, THIRST 60.
    private static final String LOT = "place 0 = 0\nlot 0 23 70500 0 60 = 0\n";
    private static final String EIGHTY = "tape '" + "fee 1234".repeat(10) + "'\n";
    private static final String TEN_RULES = Script.each(0, 9, "tape 'fee $'\nrule 99999 100000 = $");

    public static void main(String[] args) {
        feedNumbers();
        feedBytes();
        tapeRoom();
        wipe();
        ruleMinutes();
        ruleRoom();
        ruleFaults();
        leftOut();
        numbers();
        threeTests();
        words();
        holdsBeyond();
        inForce();
        testSigns();
        testsOfNow();
        buyers();
        oneTestAtLeast();
        saidRefusals();
        saidWhat();
        Due.end();
    }

    private static void feedNumbers() {
        Script.is("14: BELOW: n", """
            feed 0 -1 = BELOW
            feed 0 MIN = BELOW
            feed 0 0 = 0
            """);
        Script.is("14: n 0 .. 4; NO: n", """
            feed 0 5 = NO
            feed 0 MAX = NO
            feed 0 8 = NO
            feed 0 0 = 0
            feed 0 4 = 4
            feed 0 1 = 5
            """);
        Script.is("14: BELOW and NO ahead of FULL", EIGHTY, "feed 0 -1 = BELOW\nfeed 0 5 = NO\n"
            + "feed 0 MAX = NO\nfeed 0 MIN = BELOW\nfeed 0 1 = FULL");
    }

    private static void feedBytes() {
        Script.is("14: the n lowest bytes of a number, the highest of these first", """
            # 0x12666565: the 3 lowest are fee; 0x7B202031: the 2 lowest are a blank and 1
            feed 308700517 3 = 3
            feed 2065702961 2 = 5
            rule 0 1 = 0
            """);
        Script.is("14: all four bytes: 0x66656520; the lowest alone: 0x66656539", """
            feed 1717921056 4 = 4
            feed 1717921081 1 = 5
            rule 0 1 = 0
            """, LOT, "said 0 1 = 9");
        Script.is("14: bytes above 127 are bytes like others: -1 is 255 four times", """
            feed -1 4 = 4
            feed -1 4 = 8
            rule 0 1 = FAULT 0
            wipe = 8
            tape 'fee '
            feed -207 1 = 5
            rule 0 1 = 0
            """, LOT, "said 0 1 = 1");
        Script.is("14: n 0 feeds nothing", "tape 'fee'\nfeed 540090417 0 = 3\nfeed 8241 2 = 5\nrule 0 1 = 0");
    }

    private static void tapeRoom() {
        Script.is("14, Terms 2: THE TAPE has 80 bytes at most; FULL", EIGHTY, """
            count 9 = 80
            feed 0 1 = FULL
            feed 0 4 = FULL
            feed 0 0 = 80
            count 9 = 80
            wipe = 80
            feed 0 1 = 1
            """);
        Script.is("14: as many as there is room for, and one more", "tape '" + "x".repeat(78) + "'\n", """
            feed 0 3 = FULL
            feed 0 4 = FULL
            count 9 = 78
            feed 0 2 = 80
            feed 0 1 = FULL
            """);
        Script.is("14: four from 76 on, three from 77 on", "tape '" + "x".repeat(76) + "'\nfeed 0 4 = 80\nwipe = 80\n",
            "tape '" + "x".repeat(77) + "'\nfeed 0 4 = FULL\nfeed 0 3 = 80");
        Script.is("16: a FAULT in a full TAPE, behind a whole RULE", EIGHTY, "rule 0 1 = FAULT 8\ncount 9 = 80\nwipe = 80\n",
            "tape 'fee 1 if !thirst>9999 or !heads=1234 or !buyer=1" + "x".repeat(32) + "'\n"
                + "rule 0 1 = FAULT 48\ncount 9 = 80");
    }

    private static void wipe() {
        Script.is("15: how many bytes it had: none, one, 80", "wipe = 0\nwipe = 0\nfeed 0 1 = 1\nwipe = 1\nwipe = 0\n",
            EIGHTY,
            "wipe = 80\ncount 9 = 0\nrule 0 1 = FAULT 0");
        Script.is("15: what is wiped is not in the next RULE", "tape 'fee 12'\nwipe = 6\ntape 'fee 3'\nrule 0 1 = 0\n",
            LOT, "said 0 1 = 3");
    }

    private static void ruleMinutes() {
        Script.is("16, Terms 2: minutes 0 .. 100000; NO: one beyond", "tape 'fee 1'\n", """
            rule -1 5 = NO
            rule MIN 5 = NO
            rule MIN MAX = NO
            rule -2 -1 = NO
            rule 0 100001 = NO
            rule 0 MAX = NO
            rule 100000 100001 = NO
            rule 100001 100002 = NO
            rule 99999 100001 = NO
            rule 5 MIN = NO
            count 9 = 5
            rule 0 100000 = 0
            """);
        Script.is("16: NO: from is not ahead of to", "tape 'fee 1'\n", """
            rule 0 0 = NO
            rule 5 5 = NO
            rule 6 5 = NO
            rule 100000 100000 = NO
            rule 100000 0 = NO
            rule 100000 99999 = NO
            rule 1 0 = NO
            rule 0 -1 = NO
            rule 99999 100000 = 0
            tape 'fee 1'
            rule 0 1 = 1
            """);
        Script.is("16: NO ahead of a FAULT", "tape 'fee'\nrule 5 5 = NO\nrule -1 5 = NO\nrule 0 100001 = NO\n"
            + "rule 0 1 = FAULT 3");
    }

    private static void ruleRoom() {
        Script.is("16, Terms 2: RULES 0 .. 9; FULL: an 11th; THE TAPE stays", TEN_RULES, """
            count 4 = 10
            tape 'fee 1'
            rule 0 1 = FULL
            count 9 = 5
            count 4 = 10
            """);
        Script.is("16: NO ahead of FULL, FULL ahead of a FAULT", TEN_RULES, """
            rule 0 1 = FULL
            tape 'fee'
            rule 0 1 = FULL
            rule 1 1 = NO
            rule -1 1 = NO
            rule 0 100001 = NO
            count 9 = 3
            """);
        Script.is("16: a tenth RULE with a FAULT, then without", Script.each(0, 8, "tape 'fee $'\n"
            + "rule 99999 100000 = $"), """
            tape 'fee'
            rule 0 1 = FAULT 3
            tape ' 1'
            rule 0 1 = 9
            count 9 = 0
            """);
    }

    private static void fault(String text, int place) {
        Script.is("16, Terms 2: the FAULT of '" + text + "'", "tape '" + text + "'\n",
            "rule 0 100000 = FAULT " + place + "\n",
            "count 9 = " + text.length() + "\ncount 4 = 0\nrule 0 1 = FAULT " + place);
    }

    private static void ruleFaults() {
        Script.is("16, 36: a FAULT of an empty TAPE is -10; none counts", "rule 0 1 = FAULT 0\n",
            Script.each(2, 8, "status -$ = 0"));
        fault("x", 0);
        fault(" fee 1", 0);
        fault("Fee 1", 0);
        fault("fe", 2);
        fault("fee", 3);
        fault("fee1", 3);
        fault("fees 1", 3);
        fault("dog 1", 2);
        fault("barn 1", 3);
        fault("waters 1", 5);
        fault("fee ", 4);
        fault("fee  1", 4);
        fault("fee a", 4);
        fault("fee -1", 4);
        fault("fee 1x", 5);
        fault("fee 1 ", 6);
        fault("fee 1  if kind=1", 6);
        fault("fee 1 or kind=1", 6);
        fault("fee 1 i", 7);
        fault("fee 1 if", 8);
        fault("fee 1 ifkind=1", 8);
        fault("fee 1 if ", 9);
        fault("fee 1 if  kind=1", 9);
        fault("fee 1 if !", 10);
        fault("fee 1 if !!kind=1", 10);
        fault("fee 1 if ! kind=1", 10);
        fault("fee 1 if Kind=1", 9);
        fault("fee 1 if price=1", 9);
        fault("fee 1 if bar=1", 10);
        fault("fee 1 if hook=1", 10);
        fault("fee 1 if kind", 13);
        fault("fee 1 if kind =1", 13);
        fault("fee 1 if kind!1", 13);
        fault("fee 1 if kind=", 14);
        fault("fee 1 if kind= 1", 14);
        fault("fee 1 if kind==1", 14);
        fault("fee 1 if kind<=1", 14);
        fault("fee 1 if kind=1 ", 16);
        fault("fee 1 if kind=1  or kind=1", 16);
        fault("fee 1 if kind=1 if kind=1", 16);
        fault("fee 1 if kind=1 o", 17);
        fault("fee 1 if kind=1 or", 18);
        fault("fee 1 if kind=1 or ", 19);
        fault("fee 1 if kind=1 or  kind=1", 19);
        fault("fee 1 if kind=1or kind=1", 15);
        fault("fee 1 if kind=1 and kind=1", 16);
    }

    private static void leftOut() {
        fault(" 1", 0);
        fault("1", 0);
        fault("fe 1", 2);
        fault("fee if kind=1", 4);
        fault("fee =1", 4);
        fault("fee 1if kind=1", 5);
        fault("fee 1 kind=1", 6);
        fault("fee 1 if =1", 9);
        fault("fee 1 if 1", 9);
        fault("fee 1 if !=1", 10);
        fault("fee 1 if kin=1", 12);
        fault("fee 1 if kind1", 13);
        fault("fee 1 if kind= or kind=1", 14);
        fault("fee 1 if or kind=1", 10);
        fault("fee 1 if kind=1 or or kind=1", 20);
        fault("fee 1 if kind=1 kind=1", 16);
        fault("fee 1 if kind=1 or =1", 19);
        fault("fee 1 if kind=1kind=1", 15);
        fault("fee 1 if kind=0 or kind=1 or kind=2kind=3", 35);
        fault("fee 1 if kind=0 or kind=1 or kind=2!kind=3", 35);
    }

    private static void numbers() {
        Script.is("16, Terms 2: NUMBER: 1 to 4 digits", LOT, """
            tape 'fee 0'
            rule 0 1 = 0
            said 0 1 = 0
            tape 'fee 9'
            rule 0 1 = 1
            said 0 1 = 9
            tape 'fee 0012'
            rule 0 1 = 2
            said 0 1 = 12
            tape 'fee 9999'
            rule 0 1 = 3
            said 0 1 = 9999
            tape 'fee 0000'
            rule 0 1 = 4
            said 0 1 = 0
            """);
        fault("fee 12345", 8);
        fault("fee 00001", 8);
        fault("fee 1 if kind=12345", 18);
        fault("fee 1 if kind=00000", 18);
        fault("fee /", 4);
        fault("fee :", 4);
        fault("fee 1/", 5);
        fault("fee 9:", 5);
        Script.is("16, Terms 2: the NUMBER of a TEST: 1 to 4 digits", LOT, """
            tape 'fee 1 if heads=0007 or thirst>9999'
            rule 0 1 = 0
            holds 0 0 NONE = 1
            tape 'fee 1 if heads=7'
            rule 0 1 = 1
            holds 1 0 NONE = 1
            tape 'fee 1 if !thirst=9999'
            rule 0 1 = 2
            holds 2 0 NONE = 1
            """);
    }

    private static void threeTests() {
        Script.is("16, Terms 2: 3 TESTS at most: none, one, two, three", LOT, """
            tape 'fee 1'
            rule 0 1 = 0
            tape 'fee 1 if kind=2'
            rule 0 1 = 1
            tape 'fee 1 if kind=1 or kind=2'
            rule 0 1 = 2
            tape 'fee 1 if kind=0 or kind=1 or kind=2'
            rule 0 1 = 3
            """, Script.each(0, 3, "holds $ 0 NONE = 1"));
        fault("fee 1 if kind=0 or kind=1 or kind=2 or kind=3", 35);
        fault("fee 1 if kind=0 or kind=1 or kind=2 ", 35);
        fault("fee 1 if kind=0 or kind=1 or kind=2x", 35);
        fault("fee 1 if kind=0 or kind=1 or kind=20000", 38);
        Script.is("16: the longest RULE of all", LOT,
            "tape 'water 9999 if !thirst>9999 or !thirst>9999 or !thirst>9999'\nrule 0 1 = 0\nsaid 0 2 = 9999");
    }

    private static void words() {
        for (String field : new String[] {"kind", "owner", "heads", "thirst", "buyer"}) {
            Script.is("16, Terms 2: FIELD " + field + " with each sign",
                "tape 'dock 1 if " + field + "=1 or " + field + "<1 or !" + field + ">1'\nrule 0 1 = 0");
            for (int end = 1; end < field.length(); end++) {
                fault("fee 1 if " + field.substring(0, end), 9 + end);
                fault("fee 1 if " + field.substring(0, end) + "_" + field.substring(end) + "=1", 9 + end);
            }
        }
        for (String key : new String[] {"dock", "fee", "bar", "water"}) {
            Script.is("16, Terms 2: KEY " + key, "tape '" + key + " 4'\nrule 0 1 = 0");
            for (int end = 1; end < key.length(); end++) {
                fault(key.substring(0, end), end);
                fault(key.substring(0, end) + "_" + key.substring(end) + " 1", end);
            }
        }
    }

    private static void holdsBeyond() {
        Script.is("17: BEYOND: RULE, LOT, BUYER", LOT, "tape 'fee 1'\nrule 0 1 = 0\n", """
            holds -1 0 0 = BEYOND
            holds 1 0 0 = BEYOND
            holds MIN 0 0 = BEYOND
            holds MAX 0 0 = BEYOND
            holds 0 -1 0 = BEYOND
            holds 0 1 0 = BEYOND
            holds 0 MIN 0 = BEYOND
            holds 0 MAX 0 = BEYOND
            holds 0 0 -2 = BEYOND
            holds 0 0 5 = BEYOND
            holds 0 0 MIN = BEYOND
            holds 0 0 MAX = BEYOND
            holds 0 0 NONE = 1
            holds 0 0 0 = 1
            holds 0 0 4 = 1
            """);
        Script.is("17: the last RULE that there is room for", LOT, TEN_RULES, "holds 9 0 0 = 0\nholds 10 0 0 = BEYOND");
    }

    private static void inForce() {
        Script.is("17, Terms 2: in force from a minute on, ahead of another one", LOT, """
            tape 'fee 5'
            rule 2 4 = 0
            tape 'dock 5'
            rule 0 1 = 1
            holds 0 0 NONE = 0
            said 0 1 = 0
            holds 1 0 NONE = 1
            run 1 = 0
            holds 0 0 NONE = 0
            holds 1 0 NONE = 0
            said 0 0 = 0
            run 1 = 0
            holds 0 0 NONE = 1
            said 0 1 = 5
            run 1 = 0
            holds 0 0 NONE = 1
            said 0 1 = 5
            run 1 = 0
            holds 0 0 NONE = 0
            said 0 1 = 0
            """);
        Script.is("17, Terms 2: the last minutes, 99999 and 100000", LOT, "tape 'fee 5'\nrule 99999 100000 = 0\n"
            + "tape 'fee 6'\nrule 0 100000 = 1\n",
            "run 1000 = 0\n".repeat(99), """
            run 998 = 0
            holds 0 0 NONE = 0
            holds 1 0 NONE = 1
            run 1 = 0
            holds 0 0 NONE = 1
            holds 1 0 NONE = 1
            run 1 = 0
            count 0 = 100000
            holds 0 0 NONE = 0
            holds 1 0 NONE = 0
            """);
    }

    private static void test(String text, int so) {
        Script.is("17, Terms 2: " + text, LOT, "tape 'fee 1 if " + text + "'\n"
            + "rule 0 1 = 0\nholds 0 0 NONE = " + so + "\nsaid 0 1 = " + so);
    }

    private static void testSigns() {
        test("kind=1", 0);
        test("kind=2", 1);
        test("kind=3", 0);
        test("!kind=1", 1);
        test("!kind=2", 0);
        test("owner=3", 1);
        test("owner<3", 0);
        test("owner<4", 1);
        test("owner>3", 0);
        test("owner>2", 1);
        test("!owner<3", 1);
        test("!owner<4", 0);
        test("!owner>3", 1);
        test("!owner>2", 0);
        test("heads=7", 1);
        test("heads<7", 0);
        test("heads<8", 1);
        test("heads>6", 1);
        test("heads>7", 0);
        test("thirst=60", 1);
        test("thirst<60", 0);
        test("thirst<61", 1);
        test("thirst>60", 0);
        test("thirst>59", 1);
        test("thirst<0", 0);
    }

    private static void testsOfNow() {
        Script.is("17, Terms 2: in a minute: THIRST, KIND, OWNER and HEADS as they are then", """
            place 0 = 0
            place 1 = 1
            place 1 = 2
            alley 0 1 1 = 0
            lot 0 0 70500 0 60 = 0
            tape 'fee 1 if thirst>60'
            rule 0 9 = 0
            tape 'fee 2 if kind=1'
            rule 0 9 = 1
            tape 'fee 3 if owner=4'
            rule 0 9 = 2
            tape 'fee 4 if heads<7'
            rule 0 9 = 3
            said 0 1 = 0
            run 1 = 0
            said 0 1 = 1
            hold 0 1 = 0
            said 0 1 = 2
            hold 0 0 = 1
            said 0 1 = 1
            judge 0 4 = 1
            said 0 1 = 3
            drive 0 1 = 2
            run 1 = 1
            water 0 = 62
            holds 0 0 NONE = 0
            lot 0 30 70500 0 60 = 1
            drive 0 0 = NO
            drive 1 0 = NO
            said 1 1 = 0
            drive 0 2 = MISSING
            alley 1 2 1 = 1
            drive 0 2 = 3
            drive 1 1 = 3
            run 1 = 2
            said 1 1 = 1
            drive 0 0 = 5
            run 2 = 1
            sort 1 1 20 0 = 2
            holds 3 1 NONE = 1
            holds 3 0 NONE = 0
            """);
    }

    private static void buyers() {
        Script.is("17, Terms 2: without a BUYER a TEST of buyer is not so, with ! too", LOT, """
            tape 'fee 1 if buyer=0 or buyer<9 or buyer>0'
            rule 0 1 = 0
            holds 0 0 NONE = 0
            holds 0 0 0 = 1
            holds 0 0 4 = 1
            tape 'fee 2 if !buyer=0 or !buyer<9 or !buyer>0'
            rule 0 1 = 1
            holds 1 0 NONE = 0
            holds 1 0 0 = 1
            holds 1 0 1 = 1
            said 0 1 = 0
            tape 'fee 3 if buyer=4'
            rule 0 1 = 2
            holds 2 0 4 = 1
            holds 2 0 3 = 0
            tape 'fee 4 if !buyer=0'
            rule 0 1 = 3
            holds 3 0 0 = 0
            holds 3 0 1 = 1
            """);
    }

    private static void oneTestAtLeast() {
        Script.is("17, Terms 2: it has no TESTS, or one of them at least is so: the first, the second, the third, none",
            LOT, """
            tape 'fee 1'
            rule 0 1 = 0
            holds 0 0 NONE = 1
            tape 'fee 1 if kind=2 or kind=0 or kind=0'
            rule 0 1 = 1
            holds 1 0 NONE = 1
            tape 'fee 1 if kind=0 or kind=2 or kind=0'
            rule 0 1 = 2
            holds 2 0 NONE = 1
            tape 'fee 1 if kind=0 or !buyer=0 or kind=2'
            rule 0 1 = 3
            holds 3 0 NONE = 1
            tape 'fee 1 if kind=0 or kind=1 or kind=3'
            rule 0 1 = 4
            holds 4 0 NONE = 0
            tape 'fee 1 if kind=0 or !kind=2'
            rule 0 1 = 5
            holds 5 0 NONE = 0
            """);
    }

    private static void saidRefusals() {
        Script.is("18: BEYOND: LOT; ahead of NO", LOT, "said -1 0 = BEYOND\nsaid 1 0 = BEYOND\n"
            + "said MIN 0 = BEYOND\nsaid MAX 0 = BEYOND\nsaid 1 3 = BEYOND\nsaid 0 0 = 0");
        Script.is("18: KEY 0 dock, 1 fee, 2 water; NO: another one", LOT, """
            said 0 -1 = NO
            said 0 3 = NO
            said 0 MIN = NO
            said 0 MAX = NO
            tape 'dock 1'
            rule 0 1 = 0
            tape 'fee 2'
            rule 0 1 = 1
            tape 'water 3'
            rule 0 1 = 2
            tape 'bar 4'
            rule 0 1 = 3
            said 0 0 = 1
            said 0 1 = 2
            said 0 2 = 3
            said 0 3 = NO
            """);
    }

    private static void saidWhat() {
        Script.is("18, Terms 2: without one: dock 0, fee 0, water 1440", LOT, "said 0 0 = 0\nsaid 0 1 = 0\nsaid 0 2 = 1440");
        Script.is("18, Terms 2: the RULE of the greatest number that HOLDS, not the greatest NUMBER", LOT, """
            tape 'dock 9'
            rule 0 100 = 0
            said 0 0 = 9
            tape 'dock 3'
            rule 0 1 = 1
            said 0 0 = 3
            tape 'dock 5 if kind=0'
            rule 0 100 = 2
            said 0 0 = 3
            tape 'dock 6'
            rule 1 100 = 3
            said 0 0 = 3
            run 1 = 0
            said 0 0 = 6
            tape 'fee 7'
            rule 0 100 = 4
            said 0 0 = 6
            said 0 2 = 1440
            """);
        Script.is("18, Terms 2: a RULE that says as much as none would", LOT, """
            tape 'water 5'
            rule 0 100 = 0
            tape 'water 1440'
            rule 0 1 = 1
            said 0 2 = 1440
            run 1 = 0
            said 0 2 = 5
            tape 'fee 8'
            rule 0 100 = 2
            tape 'fee 0'
            rule 0 100 = 3
            said 0 1 = 0
            """);
        Script.is("18: without a BUYER", LOT, """
            tape 'fee 6'
            rule 0 1 = 0
            tape 'fee 4 if buyer=0 or !buyer=0'
            rule 0 1 = 1
            said 0 1 = 6
            """);
    }
}
