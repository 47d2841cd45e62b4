/** Promises 14 to 18: feed, wipe, rule, holds, said. */
public final class RuleTest {
    public static void main(String[] args) {
        tape();
        ruleRefusals();
        faults();
        everyCutFaultsAtItsEnd();
        tests();
        minutes();
        sayings();
        Due.end();
    }

    private static void tape() {
        StockYard x = new StockYard();
        Due.is(14, "n below 0", x.feed(1, -1), StockYard.BELOW);
        Due.is(14, "n above 4", x.feed(1, 5), StockYard.NO);
        Due.is(14, "n 0", x.feed(1, 0), 0);
        Due.is(14, "n 3", x.feed(0x66656565, 3), 3);
        Due.is(15, "wipe", x.wipe(), 3);
        Due.is(15, "wipe again", x.wipe(), 0);
        Due.is(14, "fee", x.feed(0x01666565, 3), 3);
        Due.is(14, " 12", x.feed(0x00203132, 3), 6);
        Due.is(16, "the bytes in their order", x.rule(0, 1), 0);
        Due.is(16, "the tape is empty then", x.count(9), 0);
        for (int i = 1; i <= 19; i++) {
            Due.is(14, "feed 4", x.feed(-1, 4), 4 * i);
        }
        Due.is(14, "feed 2", x.feed(-1, 2), 78);
        Due.is(14, "full", x.feed(-1, 3), StockYard.FULL);
        Due.is(14, "n ahead of full", x.feed(-1, 9), StockYard.NO);
        Due.is(14, "the last two", x.feed(-1, 2), 80);
        Due.is(14, "none more", x.feed(-1, 0), 80);
        Due.is(14, "full", x.feed(-1, 1), StockYard.FULL);
        Due.is(15, "wipe", x.wipe(), 80);
    }

    private static void ruleRefusals() {
        StockYard x = new StockYard();
        Due.is(16, "from below 0", Due.rule(x, "fee 1", -1, 5), StockYard.NO);
        Due.is(16, "from at to", Due.rule(x, "fee 1", 5, 5), StockYard.NO);
        Due.is(16, "from behind to", Due.rule(x, "fee 1", 6, 5), StockYard.NO);
        Due.is(16, "to beyond", Due.rule(x, "fee 1", 0, 100001), StockYard.NO);
        Due.is(16, "minutes ahead of a fault", Due.rule(x, "?", 5, 5), StockYard.NO);
        Due.is(16, "the tape stays", x.count(9), 1);
        for (int i = 0; i < 10; i++) {
            Due.is(16, "rule", Due.rule(x, "fee 1", 99999, 100000), i);
        }
        Due.is(16, "11th", Due.rule(x, "fee 1", 0, 1), StockYard.FULL);
        Due.is(16, "full ahead of a fault", Due.rule(x, "?", 0, 1), StockYard.FULL);
        Due.is(16, "minutes ahead of full", Due.rule(x, "?", 1, 1), StockYard.NO);
        Due.is(16, "a fault is no refusal by -2 .. -8", x.status(StockYard.FULL), 2);
    }

    private static void fault(String text, int place) {
        StockYard x = new StockYard();
        Due.is(16, "rule of '" + text + "'", Due.rule(x, text), -10 - place);
        Due.is(16, "the tape stays", x.wipe(), text.length());
        Due.is(16, "no rules", x.count(4), 0);
    }

    private static void faults() {
        fault("", 0);
        fault(" fee 1", 0);
        fault("Fee 1", 0);
        fault("fe", 2);
        fault("fee", 3);
        fault("feet", 3);
        fault("fee ", 4);
        fault("fee  1", 4);
        fault("fee x", 4);
        fault("fee -1", 4);
        fault("fee 1.", 5);
        fault("fee 12345", 8);
        fault("fee 1 ", 6);
        fault("fee 1 of", 6);
        fault("fee 1 or kind=1", 6);
        fault("fee 1 if", 8);
        fault("fee 1 if ", 9);
        fault("fee 1 if  kind=1", 9);
        fault("fee 1 if !", 10);
        fault("fee 1 if !!kind=1", 10);
        fault("fee 1 if ! kind=1", 10);
        fault("fee 1 if fee=1", 9);
        fault("fee 1 if kin", 12);
        fault("fee 1 if kind", 13);
        fault("fee 1 if kinds=1", 13);
        fault("fee 1 if kind =1", 13);
        fault("fee 1 if kind!1", 13);
        fault("fee 1 if kind=", 14);
        fault("fee 1 if kind==1", 14);
        fault("fee 1 if kind<=1", 14);
        fault("fee 1 if kind=12345", 18);
        fault("fee 1 if kind=1 ", 16);
        fault("fee 1 if kind=1 if kind=1", 16);
        fault("fee 1 if kind=1 or", 18);
        fault("fee 1 if kind=1 or ", 19);
        fault("fee 1 if kind=1 or kind=2 or kind=3 ", 35);
        fault("fee 1 if kind=1 or kind=2 or kind=3 or kind=1", 35);
        fault("fee 1 if kind=1 or kind=2 or kind=3\n", 35);
        fault("water 1\0", 7);
        fault("dock" + (char) 160 + "1", 4);
    }

    private static void everyCutFaultsAtItsEnd() {
        String text = "water 0099 if !thirst>9999 or !owner<5 or buyer=4";
        StockYard whole = new StockYard();
        Due.is(16, "the whole", Due.rule(whole, text), 0);
        for (int cut = 0; cut < text.length(); cut++) {
            String begun = text.substring(0, cut);
            boolean complete = begun.matches("water \\d{1,4}( if !thirst>\\d{1,4}( or !owner<5)?)?");
            StockYard x = new StockYard();
            Due.is(16, "'" + begun + "'", Due.rule(x, begun), complete ? 0 : -10 - cut);
        }
        for (String key : new String[] {"dock", "fee", "bar", "water"}) {
            for (String field : new String[] {"kind", "owner", "heads", "thirst", "buyer"}) {
                StockYard x = new StockYard();
                Due.is(16, key + field, Due.rule(x, key + " 1 if " + field + "<1 or !" + field + ">0"), 0);
            }
        }
    }

    private static void test(String text, int buyer, boolean so) {
        StockYard x = Due.yard(0);
        x.lot(0, 23, 70500, 0, 60);
        Due.rule(x, "dock 5 if " + text);
        Due.is(17, "holds of " + text + " for " + buyer, x.holds(0, 0, buyer), so ? 1 : 0);
    }

    private static void tests() {
        test("kind=2", -1, true);
        test("kind=3", -1, false);
        test("!kind=2", -1, false);
        test("!kind=3", -1, true);
        test("owner=3", -1, true);
        test("owner<3", -1, false);
        test("owner<4", -1, true);
        test("owner>3", -1, false);
        test("owner>2", -1, true);
        test("!owner>2", -1, false);
        test("heads=7", -1, true);
        test("heads=0007", -1, true);
        test("thirst=60", -1, true);
        test("thirst>60", -1, false);
        test("buyer=4", 4, true);
        test("buyer=4", 3, false);
        test("!buyer=4", 3, true);
        test("!buyer=4", -1, false);
        test("buyer<9", -1, false);
        test("buyer=0", 0, true);
        test("kind=0 or owner=0 or heads=7", -1, true);
        test("kind=0 or owner=0 or heads=8", -1, false);
        test("kind=0 or !buyer=1", 2, true);
        test("kind=0 or !buyer=1", -1, false);
        test("kind=2 or !buyer=1", -1, true);
        StockYard x = Due.yard(0);
        x.lot(0, 0, 10100, 0, 0);
        Due.is(17, "no rule", x.holds(0, 0, 0), StockYard.BEYOND);
        Due.rule(x, "bar 1");
        Due.is(17, "no tests", x.holds(0, 0, -1), 1);
        Due.is(17, "rule below 0", x.holds(-1, 0, 0), StockYard.BEYOND);
        Due.is(17, "no lot", x.holds(0, 1, 0), StockYard.BEYOND);
        Due.is(17, "buyer 5", x.holds(0, 0, 5), StockYard.BEYOND);
        Due.is(17, "buyer -2", x.holds(0, 0, -2), StockYard.BEYOND);
    }

    private static void minutes() {
        StockYard x = Due.yard(0);
        x.lot(0, 0, 10100, 0, 0);
        Due.rule(x, "fee 1", 5, 7);
        int[] want = {0, 0, 0, 0, 0, 1, 1, 0};
        for (int minute = 0; minute < want.length; minute++) {
            Due.is(17, "holds in minute " + minute, x.holds(0, 0, -1), want[minute]);
            Due.is(18, "said in minute " + minute, x.said(0, 1), want[minute]);
            x.run(1);
        }
    }

    private static void sayings() {
        StockYard x = Due.yard(0);
        Due.is(18, "no lot", x.said(0, 9), StockYard.BEYOND);
        x.lot(0, 12, 30100, 0, 0);
        Due.is(18, "dock", x.said(0, 0), 0);
        Due.is(18, "fee", x.said(0, 1), 0);
        Due.is(18, "water", x.said(0, 2), 1440);
        Due.is(18, "bar", x.said(0, 3), StockYard.NO);
        Due.is(18, "key -1", x.said(0, -1), StockYard.NO);
        Due.rule(x, "dock 9");
        Due.rule(x, "dock 8 if kind=1");
        Due.rule(x, "dock 7 if kind=0");
        Due.rule(x, "fee 6");
        Due.rule(x, "fee 4 if buyer=0 or !buyer=0");
        Due.rule(x, "water 0");
        Due.rule(x, "bar 3");
        Due.is(18, "the greatest that holds", x.said(0, 0), 8);
        Due.is(18, "without a buyer", x.said(0, 1), 6);
        Due.is(18, "water", x.said(0, 2), 0);
        Due.is(8, "not dry at 0", x.look(0, 9), 0);
        x.run(1);
        Due.is(8, "dry above 0", x.look(0, 9), 1);
    }
}
