/** Promises 12 and 13: plan, planned. */
public final class PlanTest {
    public static void main(String[] args) {
        ordersMatter();
        likeOnesByNumbers();
        refusals();
        nothingChanges();
        Due.end();
    }

    private static void planIs(StockYard x, int... lotsAndPens) {
        for (int i = 0; i < lotsAndPens.length; i++) {
            Due.is(13, "planned(" + i / 2 + ", " + i % 2 + ")", x.planned(i / 2, i % 2), lotsAndPens[i]);
        }
        Due.is(13, "planned behind the last", x.planned(lotsAndPens.length / 2, 0), StockYard.BEYOND);
    }

    private static void ordersMatter() {
        StockYard x = Due.yard(0, 0, 1, 1, 1);
        x.alley(0, 2, 5);
        x.alley(1, 2, 5);
        x.alley(2, 3, 10);
        x.alley(2, 4, 1);
        x.lot(0, 0, 10100, 0, 0);
        x.lot(1, 0, 10100, 0, 0);
        x.run(100);
        Due.is(12, "plan of both to 3 and 4", x.plan(3, 24), 115);
        planIs(x, 0, 3, 1, 4);
        Due.is(12, "plan of the second to 3", x.plan(2, 8), 115);
        planIs(x, 1, 3);
        x.drive(0, 4);
        x.run(6);
        x.lot(0, 0, 10100, 0, 0);
        Due.is(12, "lots 1 and 2 to 2 and 3", x.plan(6, 12), 121);
        planIs(x, 1, 2, 2, 3);
    }

    private static void likeOnesByNumbers() {
        StockYard x = Due.yard(1, 1, 1, 1, 0, 0, 0, 0);
        for (int chute = 4; chute < 8; chute++) {
            for (int pen = 0; pen < 4; pen++) {
                x.alley(chute, pen, 7);
            }
        }
        for (int chute = 7; chute >= 4; chute--) {
            x.lot(chute, 0, 10100, 0, 0);
        }
        Due.is(12, "four of four", x.plan(15, 15), 7);
        planIs(x, 0, 0, 1, 1, 2, 2, 3, 3);
        Due.is(12, "two of four", x.plan(10, 9), 7);
        planIs(x, 1, 0, 3, 3);
    }

    private static void refusals() {
        StockYard x = Due.star();
        x.place(1);
        Due.is(13, "no plan yet", x.planned(-1, 9), StockYard.MISSING);
        Due.is(12, "no lots", x.plan(1, 2), StockYard.BEYOND);
        Due.is(12, "bit 31 of lots", x.plan(Integer.MIN_VALUE, 2), StockYard.BEYOND);
        x.lot(0, 0, 10100, 0, 0);
        x.lot(6, 0, 10100, 0, 0);
        Due.is(12, "no place", x.plan(1, 256), StockYard.BEYOND);
        Due.is(12, "all bits of pens", x.plan(1, -1), StockYard.BEYOND);
        Due.is(12, "a scale ahead of how many", x.plan(1, 14), StockYard.KIND);
        Due.is(12, "none", x.plan(0, 0), StockYard.NO);
        Due.is(12, "two to one", x.plan(3, 2), StockYard.NO);
        Due.is(12, "one to two", x.plan(1, 6), StockYard.NO);
        Due.is(12, "no way", x.plan(1, 128), StockYard.MISSING);
        Due.is(12, "no way of one", x.plan(3, 130), StockYard.MISSING);
        Due.is(13, "a refused plan is none", x.planned(0, 0), StockYard.MISSING);
        Due.is(12, "ways", x.plan(3, 6), 2);
        Due.is(12, "no way behind it", x.plan(3, 130), StockYard.MISSING);
        planIs(x, 0, 1, 1, 2);
        Due.is(13, "i ahead of what", x.planned(2, 2), StockYard.BEYOND);
        Due.is(13, "i below 0", x.planned(-1, 0), StockYard.BEYOND);
        Due.is(13, "what", x.planned(1, 2), StockYard.NO);
        Due.is(13, "what below 0", x.planned(1, -1), StockYard.NO);
        x.drive(0, 1);
        Due.is(12, "on its way", x.plan(1, 4), StockYard.NO);
        Due.is(12, "a pen to which one is on its way", x.plan(2, 2), StockYard.NO);
        x.run(1);
        Due.is(12, "to where it is", x.plan(1, 2), StockYard.NO);
        x.drive(0, 5);
        x.run(1);
        Due.is(12, "at a hook", x.plan(1, 2), StockYard.NO);
        StockYard y = Due.yard(0, 0, 0, 0, 0, 1, 1, 1, 1, 1);
        for (int i = 0; i < 5; i++) {
            y.alley(i, i + 5, 1);
            y.lot(i, 0, 10100, 0, 0);
        }
        Due.is(12, "five", y.plan(31, 31 << 5), StockYard.NO);
        Due.is(12, "four", y.plan(30, 30 << 5), 1);
        Due.is(12, "four, no way of one", y.plan(30, 29 << 5), StockYard.MISSING);
    }

    private static void nothingChanges() {
        StockYard x = Due.yard(0, 0, 1, 1);
        x.alley(0, 2, 5);
        x.alley(1, 2, 5);
        x.alley(2, 3, 5);
        x.lot(0, 0, 10100, 0, 0);
        x.lot(1, 0, 10100, 0, 0);
        for (int i = 0; i < 40; i++) {
            Due.is(12, "plan again", x.plan(3, 12), 10);
        }
        Due.is(12, "lots on their way", x.count(5), 0);
        Due.is(9, "the alleys are free", x.drive(1, 3), 10);
        Due.is(12, "an alley that a drive has taken is taken", x.plan(1, 4), 5);
        Due.is(9, "the first alley too", x.drive(0, 2), 5);
    }
}
