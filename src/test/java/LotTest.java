/** Promises 6 to 11: lot, sort, look, drive, water, hold. */
public final class LotTest {
    public static void main(String[] args) {
        lots();
        lotRefusals();
        sorted();
        sortRefusals();
        looks();
        drives();
        drivesDoNotMeet();
        manyDrivesByOneAlley();
        driveRefusals();
        watered();
        held();
        Due.end();
    }

    private static void lots() {
        StockYard x = Due.yard(0, 1);
        x.alley(0, 1, 1);
        Due.is(6, "lot", x.lot(0, 35, 2002000, 9999, 5000), 0);
        int[] want = {3, 5, 200, 2000, 9999, 0, -1, -1, 5000, 1, 1, -1, -1};
        for (int what = 0; what < want.length; what++) {
            Due.is(8, "look(0, " + what + ")", x.look(0, what), want[what]);
        }
        Due.is(6, "lot at a chute that has one", x.lot(0, 0, 10100, 0, 0), StockYard.NO);
        StockYard y = Due.yard(0, 3);
        y.alley(0, 1, 1);
        for (int i = 0; i < 24; i++) {
            Due.is(6, "lot", y.lot(0, 0, 10100, 0, 0), i);
            y.drive(i, 1);
        }
        Due.is(6, "25th lot", y.lot(0, 0, 10100, 0, 0), StockYard.FULL);
        Due.is(6, "25th lot of no mark", y.lot(0, 0, 10100, -1, 0), StockYard.NO);
    }

    private static void lotRefusals() {
        StockYard x = Due.yard(0, 1);
        Due.is(6, "no place", x.lot(2, 99, -1, -1, -1), StockYard.BEYOND);
        Due.is(6, "told below 0", x.lot(1, -10, 10100, 0, 0), StockYard.BEYOND);
        Due.is(6, "least told", x.lot(1, Integer.MIN_VALUE, 10100, 0, 0), StockYard.BEYOND);
        Due.is(6, "owner ahead of no chute", x.lot(1, 6, 10100, 0, 0), StockYard.BEYOND);
        Due.is(6, "no chute ahead of kind", x.lot(1, 40, 10100, 0, 0), StockYard.KIND);
        Due.is(6, "kind", x.lot(0, 40, 10100, 0, 0), StockYard.NO);
        Due.is(6, "no heads", x.lot(0, 0, 500, 0, 0), StockYard.NO);
        Due.is(6, "heads below 0", x.lot(0, 0, -10100, 0, 0), StockYard.NO);
        Due.is(6, "201 heads", x.lot(0, 0, 2010100, 0, 0), StockYard.NO);
        Due.is(6, "99 pounds", x.lot(0, 0, 10099, 0, 0), StockYard.NO);
        Due.is(6, "2001 pounds", x.lot(0, 0, 12001, 0, 0), StockYard.NO);
        Due.is(6, "mark below", x.lot(0, 0, 10100, -1, 0), StockYard.NO);
        Due.is(6, "mark above", x.lot(0, 0, 10100, 10000, 0), StockYard.NO);
        Due.is(6, "dry below", x.lot(0, 0, 10100, 0, -1), StockYard.NO);
        Due.is(6, "dry above", x.lot(0, 0, 10100, 0, 5001), StockYard.NO);
        Due.is(6, "count(3)", x.count(3), 0);
        x.alley(0, 1, 3);
        x.place(0);
        x.alley(0, 2, 3);
        x.lot(0, 0, 10100, 0, 0);
        x.drive(0, 2);
        Due.is(6, "a chute to which one is on its way", x.lot(2, 0, 10100, 0, 0), StockYard.NO);
        Due.is(6, "the chute that was left", x.lot(0, 0, 10100, 0, 0), 1);
    }

    private static void sorted() {
        StockYard x = Due.star();
        int mixed = Due.lotAt(x, 1, 34, 30400, 77);
        x.run(100);
        Due.is(7, "sort", x.sort(mixed, 2, 23, 88), 1);
        int[] want = {0, 3, 2, 400, 88, 2, -1, -1, 101, 0, 1, -1, -1};
        for (int what = 0; what < want.length; what++) {
            Due.is(7, "look(1, " + what + ")", x.look(1, what), want[what]);
        }
        Due.is(7, "heads left", x.look(mixed, 2), 1);
        Due.is(7, "kind left", x.look(mixed, 0), 3);
        x.drive(1, 5);
        x.run(5);
        Due.is(7, "a last head stays", x.sort(mixed, 1, 23, 88), StockYard.NO);
    }

    private static void sortRefusals() {
        StockYard x = Due.star();
        Due.is(7, "no lot", x.sort(0, 1, 20, 0), StockYard.BEYOND);
        int plain = Due.lotAt(x, 1, 0, 90400, 0);
        Due.is(7, "plain", x.sort(plain, 1, 20, 0), StockYard.KIND);
        x.drive(plain, 5);
        x.run(5);
        int mixed = x.lot(0, 30, 90400, 0, 0);
        Due.is(7, "told below 0", x.sort(mixed, 1, -1, 0), StockYard.BEYOND);
        Due.is(7, "no place", x.sort(mixed, 1, 70, 0), StockYard.BEYOND);
        Due.is(7, "owner", x.sort(mixed, 1, 26, 0), StockYard.BEYOND);
        Due.is(7, "no pen", x.sort(mixed, 1, 30, 0), StockYard.KIND);
        Due.is(7, "not in a pen", x.sort(mixed, 1, 20, 0), StockYard.NO);
        x.drive(mixed, 1);
        Due.is(7, "on its way", x.sort(mixed, 1, 20, 0), StockYard.NO);
        x.run(5);
        Due.is(7, "0 heads", x.sort(mixed, 0, 20, 0), StockYard.NO);
        Due.is(7, "all heads", x.sort(mixed, 9, 20, 0), StockYard.NO);
        Due.is(7, "mark", x.sort(mixed, 1, 20, 10000), StockYard.NO);
        Due.is(7, "the same pen", x.sort(mixed, 1, 10, 0), StockYard.NO);
        x.lot(0, 0, 90400, 0, 0);
        x.drive(2, 2);
        Due.is(7, "a pen to which one is on its way", x.sort(mixed, 1, 20, 0), StockYard.NO);
        x.run(5);
        x.drive(2, 5);
        for (int i = 3; i < 24; i++) {
            x.lot(0, 0, 90400, 0, 0);
            x.drive(i, 5);
        }
        Due.is(7, "25th lot", x.sort(mixed, 1, 20, 0), StockYard.FULL);
        Due.is(7, "heads ahead of full", x.sort(mixed, 9, 20, 0), StockYard.NO);
        Due.is(7, "heads unchanged", x.look(mixed, 2), 9);
    }

    private static void looks() {
        StockYard x = Due.star();
        Due.is(8, "no lot", x.look(0, 99), StockYard.BEYOND);
        x.lot(0, 12, 50600, 1234, 7);
        Due.is(8, "what -1", x.look(0, -1), StockYard.NO);
        Due.is(8, "what 13", x.look(0, 13), StockYard.NO);
        Due.is(8, "lot -1", x.look(-1, 0), StockYard.BEYOND);
        x.run(10);
        x.drive(0, 2);
        Due.is(8, "place on its way", x.look(0, 5), StockYard.NONE);
        Due.is(8, "goal", x.look(0, 6), 2);
        Due.is(8, "minute there", x.look(0, 7), 11);
        Due.is(8, "thirst", x.look(0, 8), 17);
        x.run(1);
        Due.is(8, "place", x.look(0, 5), 2);
        Due.is(8, "no goal", x.look(0, 6), StockYard.NONE);
        Due.is(8, "no minute", x.look(0, 7), StockYard.NONE);
        x.run(1000);
        x.run(429 - 7 - 1);
        Due.is(8, "dry at 1439", x.look(0, 9), 0);
        Due.is(8, "thirst 1439", x.look(0, 8), 1439);
        x.run(1);
        Due.is(8, "dry at 1440", x.look(0, 9), 0);
        x.run(1);
        Due.is(8, "dry at 1441", x.look(0, 9), 1);
    }

    private static void drives() {
        StockYard x = Due.yard(0, 1, 0, 3);
        x.alley(0, 1, 5);
        x.alley(2, 1, 5);
        x.alley(1, 3, 2);
        x.lot(0, 0, 10100, 0, 0);
        x.lot(2, 0, 10100, 0, 0);
        x.run(10);
        Due.is(9, "first to the hook", x.drive(0, 3), 17);
        Due.is(9, "second waits for the last alley", x.drive(1, 3), 19);
        Due.is(9, "a place left as it is told", x.lot(2, 0, 10100, 0, 0), 2);
        Due.is(30, "run(6)", x.run(6), 0);
        Due.is(30, "run(1)", x.run(1), 1);
        Due.is(30, "run(2)", x.run(2), 1);
        Due.is(9, "at a hook any number", x.look(1, 5), 3);
    }

    private static void drivesDoNotMeet() {
        StockYard x = Due.yard(0, 1, 1, 0, 0);
        x.alley(0, 1, 3);
        x.alley(1, 2, 4);
        x.alley(3, 1, 9);
        x.alley(4, 1, 3);
        x.lot(3, 0, 10100, 0, 0);
        x.drive(0, 2);
        x.lot(0, 0, 10100, 0, 0);
        Due.is(9, "ahead of the taken stretch 9 .. 12", x.drive(1, 4), 6);
        x.lot(0, 0, 10100, 0, 0);
        Due.is(9, "alley 0 is taken 0 .. 2", x.drive(2, 1), 6);
        x.run(6);
        Due.is(9, "from the pen, from 6 on: 9 .. 12 is taken", x.drive(1, 0), 12);
        x.run(7);
        Due.is(9, "back by the alley", x.drive(0, 3), 26);
    }

    private static void manyDrivesByOneAlley() {
        StockYard x = Due.yard(0, 1, 3, 1);
        x.alley(1, 3, 3);
        x.alley(0, 1, 1);
        x.alley(3, 2, 1);
        x.lot(0, 0, 10100, 0, 0);
        x.drive(0, 1);
        x.run(1);
        for (int i = 0; i < 60; i++) {
            Due.is(9, "to and fro", x.drive(0, i % 2 == 0 ? 3 : 1), 3 * i + 4);
            x.run(3);
        }
        int minute = x.count(0);
        Due.is(9, "once more", x.drive(0, 3), minute + 3);
        for (int i = 1; i < 6; i++) {
            x.lot(0, 0, 10100, 0, 0);
            Due.is(9, "one behind the other", x.drive(i, 2), minute + 4 + 3 * i);
            x.run(1);
        }
        Due.is(9, "on their way", x.count(5), 5);
    }

    private static void driveRefusals() {
        StockYard x = Due.star();
        x.place(1);
        Due.is(9, "no lot", x.drive(0, 1), StockYard.BEYOND);
        x.lot(0, 0, 10100, 0, 0);
        Due.is(9, "no place", x.drive(0, 8), StockYard.BEYOND);
        Due.is(9, "no way", x.drive(0, 7), StockYard.MISSING);
        Due.is(9, "there", x.drive(0, 0), StockYard.NO);
        x.drive(0, 1);
        Due.is(9, "on its way", x.drive(0, 7), StockYard.NO);
        x.lot(0, 0, 10100, 0, 0);
        Due.is(9, "one is on its way there", x.drive(1, 1), StockYard.NO);
        x.run(1);
        Due.is(9, "one is there", x.drive(1, 1), StockYard.NO);
        x.drive(1, 5);
        x.run(1);
        Due.is(9, "at a hook", x.drive(1, 2), StockYard.NO);
        Due.is(9, "at a hook, there", x.drive(1, 5), StockYard.NO);
        Due.is(9, "status(NO)", x.status(StockYard.NO), 6);
    }

    private static void watered() {
        StockYard x = Due.star();
        Due.is(10, "no lot", x.water(0), StockYard.BEYOND);
        x.lot(0, 20, 10100, 0, 50);
        Due.is(10, "at a chute", x.water(0), StockYard.NO);
        x.drive(0, 1);
        Due.is(10, "on its way", x.water(0), StockYard.NO);
        x.run(10);
        Due.is(10, "in a pen", x.water(0), 60);
        Due.is(10, "again", x.water(0), 0);
        x.run(3);
        Due.is(10, "thirst", x.look(0, 8), 3);
    }

    private static void held() {
        StockYard x = Due.star();
        Due.is(11, "no lot", x.hold(0, 9), StockYard.BEYOND);
        x.lot(6, 30, 20100, 0, 0);
        Due.is(11, "mixed", x.hold(0, 9), StockYard.KIND);
        int plain = Due.lotAt(x, 1, 0, 20100, 0);
        Due.is(11, "kind 2", x.hold(plain, 2), StockYard.NO);
        Due.is(11, "kind -1", x.hold(plain, -1), StockYard.NO);
        x.see(2, plain);
        x.bid(2, plain, 5);
        Due.is(11, "held", x.hold(plain, 1), 0);
        Due.is(11, "kind", x.look(plain, 0), 1);
        Due.is(11, "not to be sold", x.sell(plain), StockYard.KIND);
        Due.is(11, "held again", x.hold(plain, 1), 1);
        Due.is(11, "plain", x.hold(plain, 0), 1);
        Due.is(11, "the bid stood", x.sell(plain), 2);
        Due.is(11, "sold", x.hold(plain, 0), StockYard.NO);
        StockYard y = Due.star();
        y.lot(0, 20, 20100, 0, 0);
        Due.is(11, "through", y.hold(0, 0), StockYard.KIND);
    }
}
