/** Promises 19 to 25: see, bid, sell, weigh, off, test, account. */
public final class SaleTest {
    public static void main(String[] args) {
        seen();
        bids();
        barred();
        sold();
        weights();
        money();
        offs();
        tests();
        testOfPlaceZero();
        accounts();
        Due.end();
    }

    private static void seen() {
        StockYard x = Due.star();
        Due.is(19, "no lot", x.see(0, 0), StockYard.BEYOND);
        x.lot(0, 20, 10100, 0, 0);
        Due.is(19, "no buyer", x.see(5, 0), StockYard.BEYOND);
        Due.is(19, "buyer -1", x.see(-1, 0), StockYard.BEYOND);
        Due.is(19, "at a chute", x.see(0, 0), StockYard.NO);
        x.drive(0, 1);
        Due.is(19, "on its way", x.see(0, 0), StockYard.NO);
        x.run(1);
        for (int buyer = 0; buyer < 5; buyer++) {
            Due.is(19, "sees", x.see(buyer, 0), 1);
            Due.is(19, "has seen", x.see(buyer, 0), 0);
        }
    }

    private static void bids() {
        StockYard x = Due.star();
        int lot = Due.lotAt(x, 1, 0, 10100, 0);
        Due.is(20, "no lot", x.bid(0, 1, 5), StockYard.BEYOND);
        Due.is(20, "no buyer", x.bid(5, lot, 5), StockYard.BEYOND);
        Due.is(20, "not seen", x.bid(0, lot, 5), StockYard.NO);
        x.see(0, lot);
        x.see(1, lot);
        Due.is(20, "price 0", x.bid(0, lot, 0), StockYard.NO);
        Due.is(20, "price 10000", x.bid(0, lot, 10000), StockYard.NO);
        Due.is(20, "price 1", x.bid(0, lot, 1), 1);
        Due.is(20, "price 9999", x.bid(0, lot, 9999), 1);
        Due.is(20, "another", x.bid(1, lot, 5), 2);
        x.hold(lot, 1);
        Due.is(20, "kind ahead of price", x.bid(1, lot, 0), StockYard.KIND);
        x.hold(lot, 0);
        x.drive(lot, 3);
        Due.is(20, "on its way", x.bid(1, lot, 6), StockYard.NO);
        x.run(5);
        Due.is(20, "on a scale", x.bid(1, lot, 6), StockYard.NO);
        x.drive(lot, 2);
        x.run(5);
        Due.is(20, "seen in another pen", x.bid(1, lot, 6), 2);
        x.sell(lot);
        Due.is(20, "sold", x.bid(1, lot, 6), StockYard.NO);
    }

    private static void barred() {
        StockYard x = Due.star();
        int lot = Due.lotAt(x, 1, 2, 50100, 0);
        for (int buyer = 0; buyer < 5; buyer++) {
            x.see(buyer, lot);
        }
        Due.rule(x, "bar 1", 0, 10);
        Due.rule(x, "bar 2 if owner=3");
        Due.rule(x, "bar 3 if owner=3 or buyer=3");
        Due.rule(x, "bar 0 if !buyer=0");
        Due.rule(x, "bar 4 if heads>4", 10, 20);
        int[] want = {1, StockYard.NO, 2, StockYard.NO, 3};
        for (int buyer = 0; buyer < 5; buyer++) {
            Due.is(20, "bid of " + buyer, x.bid(buyer, lot, 50 + buyer), want[buyer]);
        }
        x.run(9);
        Due.is(20, "no longer barred", x.bid(1, lot, 7), 4);
        Due.is(20, "barred now", x.bid(4, lot, 77), StockYard.NO);
        Due.is(21, "a bid that stood stands", x.sell(lot), 4);
    }

    private static void sold() {
        StockYard x = Due.star();
        Due.is(21, "no lot", x.sell(0), StockYard.BEYOND);
        int lot = Due.lotAt(x, 1, 0, 10100, 0);
        Due.is(21, "no bid", x.sell(lot), StockYard.MISSING);
        for (int buyer = 0; buyer < 5; buyer++) {
            x.see(buyer, lot);
        }
        x.bid(3, lot, 80);
        x.bid(1, lot, 80);
        x.bid(0, lot, 90);
        x.bid(0, lot, 70);
        x.bid(3, lot, 80);
        Due.is(31, "none sold", x.count(7), 0);
        x.drive(lot, 5);
        x.run(2);
        Due.is(21, "the first of the greatest, at a hook too", x.sell(lot), 1);
        Due.is(21, "look(11)", x.look(lot, 11), 1);
        Due.is(21, "again", x.sell(lot), StockYard.NO);
        Due.is(31, "one sold", x.count(7), 1);
        x.lot(0, 10, 10100, 0, 0);
        Due.is(21, "held ahead of no bid", x.sell(1), StockYard.KIND);
    }

    private static void weights() {
        StockYard x = Due.star();
        Due.is(22, "no lot", x.weigh(0), StockYard.BEYOND);
        x.lot(0, 23, 30100, 0, 58);
        Due.is(22, "at a chute", x.weigh(0), StockYard.NO);
        x.drive(0, 3);
        Due.is(22, "on its way", x.weigh(0), StockYard.NO);
        x.run(1);
        Due.is(22, "thirst 59", x.weigh(0), 300);
        x.run(1);
        Due.is(22, "thirst 60", x.weigh(0), 297);
        Due.rule(x, "dock 90 if kind=2 or buyer=0");
        Due.is(22, "docked", x.weigh(0), 27);
        x.off(3, -26);
        Due.is(22, "off", x.weigh(0), 1);
        x.off(3, -99);
        Due.is(22, "1 at least", x.weigh(0), 1);
        Due.rule(x, "dock 9999");
        x.off(3, 99);
        Due.is(22, "1 a head at least", x.weigh(0), 102);
        x.off(4, 7);
        Due.is(22, "another scale's off", x.weigh(0), 102);
        Due.is(22, "no money", x.look(0, 12), StockYard.NONE);
    }

    private static int soldLot(StockYard x, int told, int heads, int mark, int buyer, int price) {
        int lot = Due.lotAt(x, 1, told, heads, mark);
        x.see(buyer, lot);
        x.bid(buyer, lot, price);
        x.sell(lot);
        return lot;
    }

    private static void bring(StockYard x, int lot, int place) {
        x.run(x.drive(lot, place) - x.count(0));
    }

    private static void money() {
        StockYard x = Due.star();
        Due.rule(x, "fee 10");
        Due.rule(x, "fee 30 if buyer=2");
        int lot = Due.lotAt(x, 1, 0, 30199, 0);
        bring(x, lot, 3);
        Due.is(22, "weighed unsold", x.weigh(lot), 597);
        Due.is(22, "no money", x.look(lot, 12), StockYard.NONE);
        bring(x, lot, 1);
        x.see(2, lot);
        x.bid(2, lot, 33);
        x.sell(lot);
        Due.is(22, "sold, not weighed since", x.look(lot, 12), StockYard.NONE);
        bring(x, lot, 3);
        x.off(3, 1);
        Due.is(22, "weighed", x.weigh(lot), 598);
        Due.is(22, "money below 0, cut ahead of the fee", x.look(lot, 12), 33 * 598 / 100 - 90);
        Due.is(36, "which is no refusal", x.status(StockYard.NO), 0);
        x.off(3, 50);
        Due.is(22, "weighed again", x.weigh(lot), 647);
        Due.is(22, "the money stays", x.look(lot, 12), 197 - 90);
        int dear = soldLot(x, 0, 2002000, 0, 4, 9999);
        bring(x, dear, 4);
        x.off(4, 99);
        Due.is(22, "the greatest weight", x.weigh(dear), 400099);
        Due.is(22, "the greatest money", x.look(dear, 12), 9999L * 400099 / 100 - 2000);
    }

    private static void offs() {
        StockYard x = Due.star();
        Due.is(23, "at first", x.off(3, 5), 0);
        Due.is(23, "before", x.off(3, -99), 5);
        Due.is(23, "before", x.off(3, 99), -99);
        Due.is(23, "of another", x.off(4, 1), 0);
        Due.is(23, "no place", x.off(7, 100), 0);
        Due.is(23, "place -1", x.off(-1, 0), 0);
        Due.is(23, "no scale", x.off(1, 100), 0);
        Due.is(23, "v 100", x.off(3, 100), 0);
        Due.is(23, "v -100", x.off(3, -100), 0);
        Due.is(36, "status(BEYOND)", x.status(StockYard.BEYOND), 2);
        Due.is(36, "status(KIND)", x.status(StockYard.KIND), 1);
        Due.is(36, "status(NO)", x.status(StockYard.NO), 2);
        Due.is(23, "unchanged", x.off(3, 0), 99);
    }

    private static void tests() {
        StockYard x = Due.star();
        Due.is(24, "no place", x.test(7), StockYard.BEYOND);
        Due.is(24, "no scale", x.test(1), StockYard.KIND);
        Due.rule(x, "fee 3", 0, 20);
        x.off(3, 10);
        int first = soldLot(x, 0, 10100, 0, 0, 100);
        bring(x, first, 3);
        Due.is(22, "weighed", x.weigh(first), 110);
        bring(x, first, 5);
        int second = soldLot(x, 0, 10100, 0, 0, 100);
        bring(x, second, 3);
        x.off(3, -20);
        Due.is(22, "weighed", x.weigh(second), 80);
        bring(x, second, 5);
        int third = soldLot(x, 0, 10100, 0, 0, 100);
        bring(x, third, 4);
        x.weigh(third);
        x.run(20);
        x.judge(first, 4);
        Due.is(24, "two anew", x.test(3), 2);
        Due.is(24, "the off at the test", x.look(first, 12), 130 - 3);
        Due.is(24, "of each", x.look(second, 12), 100 - 3);
        Due.is(24, "not by another scale", x.look(third, 12), 100 - 3);
        Due.is(24, "off is 0 then", x.off(3, 40), 0);
        Due.is(24, "none since", x.test(3), 0);
        Due.is(24, "unchanged", x.look(first, 12), 127);
        Due.is(24, "off 0: none", x.test(4), 0);
        x.off(4, 40);
        Due.is(24, "a test with off 0 was a test", x.test(4), 0);
        Due.is(24, "unchanged", x.look(third, 12), 97);
        int light = soldLot(x, 0, 10100, 0, 0, 100);
        bring(x, light, 3);
        x.off(3, -50);
        x.weigh(light);
        x.off(3, 99);
        Due.is(24, "one anew", x.test(3), 1);
        Due.is(24, "weight 1 at least", x.look(light, 12), 1);
    }

    private static void testOfPlaceZero() {
        StockYard x = Due.yard(2, 0, 1);
        x.alley(0, 1, 1);
        x.alley(1, 2, 1);
        x.lot(1, 0, 10100, 0, 0);
        bring(x, 0, 2);
        x.see(0, 0);
        x.bid(0, 0, 100);
        x.sell(0);
        x.off(0, 5);
        Due.is(24, "none yet", x.test(0), 0);
        bring(x, 0, 0);
        x.off(0, 5);
        x.weigh(0);
        Due.is(24, "one", x.test(0), 1);
        x.off(0, 5);
        Due.is(24, "none since", x.test(0), 0);
    }

    private static void accounts() {
        StockYard x = Due.star();
        Due.is(25, "owner 6", x.account(6), 0);
        Due.is(25, "owner -1", x.account(-1), 0);
        Due.is(36, "status(BEYOND)", x.status(StockYard.BEYOND), 2);
        x.write(1000, 0);
        x.write(5500, 5);
        for (int i = 0; i < 3; i++) {
            int lot = soldLot(x, i < 2 ? 0 : 5, 10100, i < 2 ? 1000 : 5500, 0, 100 + i);
            bring(x, lot, 3);
            x.weigh(lot);
            bring(x, lot, 5);
        }
        Due.is(25, "of two", x.account(0), 201);
        Due.is(25, "of one", x.account(5), 102);
        Due.is(25, "of none", x.account(1), 0);
        x.write(1001, 1);
        Due.is(25, "in doubt", x.account(0), 0);
        x.judge(1, 5);
        Due.is(25, "judged to another", x.account(5), 203);
        x.judge(0, 0);
        Due.is(25, "judged", x.account(0), 100);
    }
}
