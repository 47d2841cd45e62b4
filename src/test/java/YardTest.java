/** Promises 1 to 5: a new object, place, alley, way, by. */
public final class YardTest {
    public static void main(String[] args) {
        newObject();
        places();
        alleys();
        ways();
        firstWayOfLikeOnes();
        longestWay();
        Due.end();
    }

    private static void newObject() {
        StockYard x = new StockYard();
        for (int what = 0; what <= 10; what++) {
            Due.is(1, "count(" + what + ")", x.count(what), 0);
        }
        for (int by = -8; by <= -2; by++) {
            Due.is(1, "status(" + by + ")", x.status(by), 0);
        }
        Due.is(1, "wipe()", x.wipe(), 0);
        Due.is(1, "tear()", x.tear(), 0);
        Due.is(1, "look(0, 0)", x.look(0, 0), StockYard.BEYOND);
    }

    private static void places() {
        StockYard x = new StockYard();
        Due.is(2, "place(-1)", x.place(-1), StockYard.NO);
        Due.is(2, "place(4)", x.place(4), StockYard.NO);
        for (int i = 0; i < 14; i++) {
            Due.is(2, "place", x.place(i % 4), i);
        }
        Due.is(2, "place 15th", x.place(0), StockYard.FULL);
        Due.is(2, "place 15th of no kind", x.place(4), StockYard.NO);
        Due.is(2, "count(1)", x.count(1), 14);
    }

    private static void alleys() {
        StockYard x = Due.yard(0, 1, 1);
        Due.is(3, "alley(0, 3, 1)", x.alley(0, 3, 1), StockYard.BEYOND);
        Due.is(3, "alley(-1, 0, 1)", x.alley(-1, 0, 1), StockYard.BEYOND);
        Due.is(3, "alley(3, 3, 0)", x.alley(3, 3, 0), StockYard.BEYOND);
        Due.is(3, "alley(0, 0, 1)", x.alley(0, 0, 1), StockYard.NO);
        Due.is(3, "alley(0, 1, 0)", x.alley(0, 1, 0), StockYard.NO);
        Due.is(3, "alley(0, 1, 31)", x.alley(0, 1, 31), StockYard.NO);
        Due.is(3, "alley(0, 1, 30)", x.alley(0, 1, 30), 0);
        for (int i = 1; i < 20; i++) {
            Due.is(3, "alley", x.alley(1, 0, 30), i);
        }
        Due.is(3, "alley 21st", x.alley(0, 1, 1), StockYard.FULL);
        Due.is(3, "alley 21st to itself", x.alley(1, 1, 1), StockYard.NO);
        Due.is(3, "way(0, 1)", x.way(0, 1), 30);
    }

    private static void ways() {
        StockYard x = Due.yard(0, 1, 2, 3);
        x.alley(0, 1, 10);
        x.alley(1, 2, 10);
        x.alley(0, 2, 25);
        Due.is(4, "way(0, 2)", x.way(0, 2), 20);
        Due.is(4, "way(2, 0)", x.way(2, 0), 20);
        Due.is(4, "way(1, 1)", x.way(1, 1), 0);
        Due.is(4, "way(0, 3)", x.way(0, 3), StockYard.NONE);
        Due.is(4, "way(3, 3)", x.way(3, 3), 0);
        Due.is(4, "way(0, 4)", x.way(0, 4), StockYard.BEYOND);
        Due.is(4, "way(-1, 0)", x.way(-1, 0), StockYard.BEYOND);
        Due.is(5, "by(0, 2, 0)", x.by(0, 2, 0), 0);
        Due.is(5, "by(0, 2, 1)", x.by(0, 2, 1), 1);
        Due.is(5, "by(0, 2, 2)", x.by(0, 2, 2), StockYard.BEYOND);
        Due.is(5, "by(0, 2, -1)", x.by(0, 2, -1), StockYard.BEYOND);
        Due.is(5, "by(2, 0, 0)", x.by(2, 0, 0), 1);
        Due.is(5, "by(0, 3, 0)", x.by(0, 3, 0), StockYard.BEYOND);
        Due.is(5, "by(0, 4, 0)", x.by(0, 4, 0), StockYard.BEYOND);
        Due.is(5, "by(4, 0, 0)", x.by(4, 0, 0), StockYard.BEYOND);
        Due.is(5, "by(0, -1, 0)", x.by(0, -1, 0), StockYard.BEYOND);
        Due.is(5, "by(1, 1, 0)", x.by(1, 1, 0), StockYard.BEYOND);
        x.alley(2, 0, 19);
        Due.is(4, "way(0, 2) by the new one", x.way(0, 2), 19);
        Due.is(5, "by(0, 2, 0) by the new one", x.by(0, 2, 0), 3);
        Due.is(36, "status(BEYOND)", x.status(StockYard.BEYOND), 9);
    }

    private static void firstWayOfLikeOnes() {
        StockYard x = Due.yard(0, 1, 1, 1);
        x.alley(2, 3, 4);
        x.alley(0, 1, 4);
        x.alley(1, 3, 4);
        x.alley(0, 2, 4);
        x.alley(0, 3, 8);
        Due.is(5, "by(0, 3, 0)", x.by(0, 3, 0), 1);
        Due.is(5, "by(0, 3, 1)", x.by(0, 3, 1), 2);
        Due.is(5, "by(3, 0, 0) is another way back", x.by(3, 0, 0), 0);
        Due.is(5, "by(3, 0, 1)", x.by(3, 0, 1), 3);
    }

    private static void longestWay() {
        StockYard x = Due.yard(0, 1, 1, 1, 1, 1, 1, 1, 1, 1, 1, 1, 1, 1);
        for (int i = 0; i < 13; i++) {
            x.alley(12 - i, 13 - i, 30);
        }
        Due.is(4, "way(0, 13)", x.way(0, 13), 390);
        for (int i = 0; i < 13; i++) {
            Due.is(5, "by(0, 13, " + i + ")", x.by(0, 13, i), 12 - i);
        }
        Due.is(5, "by(0, 13, 13)", x.by(0, 13, 13), StockYard.BEYOND);
        x.lot(0, 0, 10100, 0, 0);
        Due.is(9, "drive(0, 13)", x.drive(0, 13), 390);
        x.lot(0, 0, 10100, 0, 0);
        Due.is(9, "one alley behind the first", x.drive(1, 12), 390);
    }
}
