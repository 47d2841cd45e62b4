/** Promises 30 to 36: run, count, lay, tear, row, copy, status. */
public final class CountTest {
    public static void main(String[] args) {
        runs();
        counts();
        rows();
        copies();
        status();
        Due.end();
    }

    private static void runs() {
        StockYard x = Due.star();
        Due.is(30, "n below 0", x.run(-1), StockYard.BELOW);
        Due.is(30, "n 0", x.run(0), StockYard.NO);
        Due.is(30, "n 1001", x.run(1001), StockYard.NO);
        Due.is(31, "count(0)", x.count(0), 0);
        x.lot(0, 0, 10100, 0, 0);
        x.drive(0, 1);
        x.lot(0, 0, 10100, 0, 0);
        x.drive(1, 2);
        x.lot(0, 0, 10100, 0, 0);
        Due.is(30, "run(1000)", x.run(1000), 2);
        Due.is(30, "run(1)", x.run(1), 0);
        Due.is(31, "count(0)", x.count(0), 1001);
    }

    private static void counts() {
        StockYard x = Due.star();
        Due.is(31, "what -1", x.count(-1), StockYard.NO);
        Due.is(31, "what 11", x.count(11), StockYard.NO);
        int sold = Due.lotAt(x, 1, 0, 50100, 0);
        x.see(0, sold);
        x.bid(0, sold, 9);
        x.sell(sold);
        x.drive(Due.lotAt(x, 3, 0, 70100, 0), 5);
        x.run(3);
        x.drive(sold, 5);
        x.run(3);
        x.lot(0, 0, 10100, 0, 5000);
        x.drive(2, 1);
        x.lot(0, 0, 10100, 0, 5000);
        x.drive(3, 5);
        x.lot(0, 0, 10100, 0, 0);
        Due.rule(x, "fee 1");
        Due.rule(x, "fee 2");
        Due.write(x, "fee");
        x.write(1, 1);
        int[] want = {x.count(0), 7, 6, 5, 2, 2, 2, 1, 12, 3, 1};
        for (int what = 0; what < want.length; what++) {
            Due.is(31, "count(" + what + ")", x.count(what), want[what]);
        }
    }

    private static void rows() {
        StockYard x = Due.star();
        Due.is(34, "missing", x.row(-1), StockYard.MISSING);
        Due.is(33, "tear", x.tear(), 0);
        Due.lotAt(x, 5, 0, 50100, 0);
        Due.lotAt(x, 5, 0, 60100, 0);
        Due.lotAt(x, 1, 0, 70100, 0);
        x.lot(0, 0, 80100, 0, 0);
        x.drive(3, 2);
        x.lot(0, 0, 90100, 0, 0);
        Due.is(32, "lay", x.lay(), 7);
        int[] want = {9, 7, 0, 0, 0, 11, 0};
        for (int i = 0; i < want.length; i++) {
            Due.is(34, "row(" + i + ")", x.row(i), want[i]);
        }
        Due.is(34, "row(7)", x.row(7), StockYard.BEYOND);
        Due.is(34, "row(-1)", x.row(-1), StockYard.BEYOND);
        x.place(1);
        x.run(5);
        Due.is(34, "as it was laid", x.row(2), 0);
        Due.is(34, "a place more is not in it", x.row(7), StockYard.BEYOND);
        Due.is(32, "lay", x.lay(), 8);
        Due.is(34, "laid anew", x.row(2), 8);
        Due.is(34, "not added to", x.row(5), 11);
        Due.is(34, "the place more", x.row(7), 0);
        Due.is(33, "tear", x.tear(), 1);
        Due.is(33, "tear again", x.tear(), 0);
        Due.is(34, "missing", x.row(0), StockYard.MISSING);
        StockYard y = new StockYard();
        Due.is(32, "lay of no places", y.lay(), 0);
        Due.is(33, "an empty row is there", y.tear(), 1);
    }

    private static void rowIs(StockYard x, int... want) {
        for (int i = 0; i < want.length; i++) {
            Due.is(35, "row(" + i + ")", x.row(i), want[i]);
        }
    }

    private static void copies() {
        StockYard x = Due.yard(0, 0, 0, 0, 0);
        Due.is(35, "missing ahead of below", x.copy(0, 0, -1), StockYard.MISSING);
        for (int i = 0; i < 5; i++) {
            x.lot(i, 0, 10000 * (i + 1) + 100, 0, 0);
        }
        x.lay();
        Due.is(35, "below ahead of copy", x.copy(-1, 9, -1), StockYard.BELOW);
        Due.is(35, "i below 0", x.copy(-1, 0, 1), StockYard.COPY);
        Due.is(35, "j below 0", x.copy(0, -1, 0), StockYard.COPY);
        Due.is(35, "i + n", x.copy(3, 0, 3), StockYard.COPY);
        Due.is(35, "j + n", x.copy(0, 3, 3), StockYard.COPY);
        Due.is(35, "i + n that wraps around", x.copy(1, 0, Integer.MAX_VALUE), StockYard.COPY);
        Due.is(35, "j + n that wraps around", x.copy(0, Integer.MAX_VALUE, 1), StockYard.COPY);
        rowIs(x, 1, 2, 3, 4, 5);
        Due.is(35, "forth", x.copy(0, 1, 4), 4);
        rowIs(x, 1, 1, 2, 3, 4);
        Due.is(35, "back", x.copy(2, 0, 3), 3);
        rowIs(x, 2, 3, 4, 3, 4);
        Due.is(35, "none at the end", x.copy(5, 5, 0), 0);
        Due.is(35, "none behind the end", x.copy(6, 5, 0), StockYard.COPY);
        Due.is(35, "all", x.copy(0, 0, 5), 5);
        rowIs(x, 2, 3, 4, 3, 4);
    }

    private static void status() {
        StockYard x = new StockYard();
        Due.is(36, "status(-1)", x.status(-1), StockYard.NO);
        Due.is(36, "status(-9)", x.status(-9), StockYard.NO);
        Due.is(36, "status(0)", x.status(0), StockYard.NO);
        Due.is(36, "those count too", x.status(StockYard.NO), 3);
        x.row(0);
        x.way(0, 0);
        x.account(9);
        x.feed(0, -1);
        x.rule(0, 9);
        x.lay();
        x.copy(1, 0, 0);
        for (int i = 0; i < 20; i++) {
            x.feed(0, 4);
        }
        x.feed(0, 4);
        x.whose(5);
        x.place(0);
        x.test(0);
        int[] want = {1, 2, 1, 1, 1, 3, 1};
        for (int i = 0; i < want.length; i++) {
            Due.is(36, "status(" + (-2 - i) + ")", x.status(-2 - i), want[i]);
        }
    }
}
