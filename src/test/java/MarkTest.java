/** Promises 26 to 29: write, whose, near, judge. */
public final class MarkTest {
    public static void main(String[] args) {
        written();
        near();
        doubts();
        judged();
        Due.end();
    }

    private static void written() {
        StockYard x = new StockYard();
        Due.is(26, "owner ahead of mark", x.write(10000, 6), StockYard.BEYOND);
        Due.is(26, "owner -1", x.write(0, -1), StockYard.BEYOND);
        Due.is(26, "mark 10000", x.write(10000, 0), StockYard.NO);
        Due.is(26, "mark -1", x.write(-1, 0), StockYard.NO);
        Due.is(27, "no one's", x.whose(0), StockYard.NONE);
        Due.is(27, "mark -1", x.whose(-1), StockYard.NO);
        Due.is(27, "mark 10000", x.whose(10000), StockYard.NO);
        for (int i = 0; i < 20; i++) {
            Due.is(26, "write", x.write(9999 - i, i % 6), i + 1);
        }
        Due.is(26, "written for that one", x.write(9999, 0), StockYard.NO);
        Due.is(26, "written for another one", x.write(9999, 1), StockYard.NO);
        Due.is(26, "21st", x.write(0, 1), StockYard.FULL);
        for (int i = 0; i < 20; i++) {
            Due.is(27, "whose", x.whose(9999 - i), i % 6);
        }
        Due.is(31, "count(10)", x.count(10), 20);
    }

    private static void near() {
        StockYard x = new StockYard();
        Due.is(28, "mark -1", x.near(-1), StockYard.NO);
        Due.is(28, "mark 10000", x.near(10000), StockYard.NO);
        Due.is(28, "none", x.near(0), 0);
        x.write(7, 0);
        x.write(9007, 1);
        x.write(17, 0);
        x.write(807, 2);
        x.write(18, 2);
        x.write(70, 3);
        Due.is(28, "near 7: 9007, 17, 807", x.near(7), 3);
        Due.is(28, "near 8: 7, 18", x.near(8), 2);
        Due.is(28, "near 10: 17, 18, 70", x.near(10), 3);
        Due.is(28, "near 5555", x.near(5555), 0);
    }

    private static StockYard withLot(int owner, int mark) {
        StockYard x = Due.yard(0);
        x.lot(0, owner, 10100, mark, 0);
        return x;
    }

    private static void doubts() {
        StockYard x = withLot(2, 1234);
        Due.is(8, "not written", x.look(0, 10), 1);
        x.write(1234, 2);
        Due.is(8, "written", x.look(0, 10), 0);
        x.write(1235, 2);
        Due.is(8, "a near one of its owner", x.look(0, 10), 0);
        x.write(1245, 3);
        Due.is(8, "two digits unlike", x.look(0, 10), 0);
        x.write(2234, 3);
        Due.is(8, "a near one of another", x.look(0, 10), 1);
        StockYard y = withLot(2, 1234);
        y.write(1234, 1);
        Due.is(8, "written for another", y.look(0, 10), 1);
    }

    private static void judged() {
        StockYard x = withLot(2, 1234);
        Due.is(29, "no lot", x.judge(1, 0), StockYard.BEYOND);
        Due.is(29, "no owner", x.judge(0, 6), StockYard.BEYOND);
        Due.is(29, "owner -1", x.judge(0, -1), StockYard.BEYOND);
        Due.is(29, "in doubt", x.judge(0, 4), 1);
        Due.is(29, "its owner then", x.look(0, 1), 4);
        Due.is(29, "no longer in doubt", x.look(0, 10), 0);
        x.write(1234, 1);
        Due.is(29, "nor later", x.look(0, 10), 0);
        Due.is(29, "judged again", x.judge(0, 1), 0);
        StockYard y = withLot(2, 1234);
        y.write(1234, 2);
        Due.is(29, "not in doubt", y.judge(0, 2), 0);
        y.write(1233, 1);
        Due.is(29, "judged ahead of doubt", y.look(0, 10), 0);
    }
}
