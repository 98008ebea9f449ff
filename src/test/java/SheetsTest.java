/** Promises 1 to 5: a new object, sheet, drop, item, copy. */
final class SheetsTest {
    private static final Due DUE = new Due("SheetsTest");

    public static void main(String[] args) {
        newObject();
        sheetAnswers();
        sheetRefuses();
        dropAnswers();
        itemRefuses();
        itemKeepsLowestBits();
        copyRefuses();
        copyTakesAllAhead();
        DUE.end();
    }

    private static void newObject() {
        RayGround g = new RayGround();
        for (int year = 0; year < 2; year++) {
            DUE.is("new count 11", g.count(year, 11), 0);
            DUE.is("new count 12", g.count(year, 12), 0);
            DUE.is("new count 13", g.count(year, 13), 0);
            DUE.is("new box", g.box(year, 0, 0, 63, 63), 0);
            DUE.is("new leftOver", g.leftOver(year), 0);
            DUE.is("new told", g.told(year, 0, 0), -10001);
            DUE.is("new grow", g.grow(year, 1, 1, 1), 0);
            DUE.is("new roofs", g.roofs(year, 1, 3), 0);
            for (int strip = 0; strip < 4; strip++) {
                DUE.is("new shift", g.shift(year, strip, 0), 0);
            }
        }
        for (int sheet = 0; sheet < 4; sheet++) {
            DUE.is("new drop", g.drop(sheet), -11);
        }
        DUE.is("a new tape", g.job(0), -20);
        DUE.is("BAD", RayGround.BAD, -1);
        DUE.is("NOT", RayGround.NOT, -2);
        DUE.is("FULL", RayGround.FULL, -3);
        DUE.is("NULL", RayGround.NULL, -11);
        DUE.is("CAST", RayGround.CAST, -12);
        DUE.is("INDEX", RayGround.INDEX, -13);
        DUE.is("SIZE", RayGround.SIZE, -14);
    }

    private static void sheetAnswers() {
        RayGround g = new RayGround();
        DUE.is("sheet 0 items", g.sheet(0, 0, 0), 0);
        DUE.is("it holds a row", g.drop(0), 0);
        DUE.is("sheet 40 items", g.sheet(3, 2, 40), 40);
        DUE.is("all 40", g.item(3, 2, 39, 1), 1);
        DUE.is("again, shorter, of another lane", g.sheet(3, 1, 7), 7);
        DUE.is("the lane is new", g.item(3, 2, 0, 1), -12);
        DUE.is("the length is new", g.item(3, 1, 7, 1), -13);
        // Items are 0 at first, also where an earlier row had others.
        g.sheet(2, 2, 8);
        for (int i = 0; i < 8; i++) {
            g.item(2, 2, i, 1);
        }
        g.sheet(2, 2, 8);
        DUE.is("a row of zeros is two points", g.points(0, 2, 2, 0, 2), 2);
        for (int what = 0; what < 6; what++) {
            DUE.is("told of zeros", g.told(0, 1, what), 0);
        }
    }

    private static void sheetRefuses() {
        RayGround g = new RayGround();
        g.sheet(0, 1, 5);
        int[][] bad = {{-1, 0, 1}, {4, 0, 1}, {0, -1, 1}, {0, 3, 1}, {0, 0, 41}, {0, 0, Integer.MAX_VALUE},
            {4, 0, -1}, {0, 3, -1}, {Integer.MIN_VALUE, 0, 0}, {0, Integer.MAX_VALUE, 0}};
        for (int[] call : bad) {
            DUE.is("sheet bad", g.sheet(call[0], call[1], call[2]), -1);
        }
        DUE.is("sheet below 0", g.sheet(0, 0, -1), -14);
        DUE.is("sheet far below 0", g.sheet(0, 0, Integer.MIN_VALUE), -14);
        DUE.is("the row stays", g.drop(0), 5);
    }

    private static void dropAnswers() {
        RayGround g = new RayGround();
        g.sheet(1, 0, 9);
        DUE.is("drop -1", g.drop(-1), -1);
        DUE.is("drop 4", g.drop(4), -1);
        DUE.is("drop of another", g.drop(0), -11);
        DUE.is("drop", g.drop(1), 9);
        DUE.is("drop again", g.drop(1), -11);
        DUE.is("item of what is dropped", g.item(1, 0, 0, 1), -11);
    }

    private static void itemRefuses() {
        RayGround g = new RayGround();
        DUE.is("bad ahead of null", g.item(4, 0, 0, 0), -1);
        DUE.is("bad ahead of null", g.item(0, 3, 0, 0), -1);
        DUE.is("bad lane", g.item(0, -1, 0, 0), -1);
        DUE.is("bad sheet", g.item(-1, 0, 0, 0), -1);
        DUE.is("null", g.item(0, 0, -1, 0), -11);
        g.sheet(0, 1, 3);
        DUE.is("bad lane of a row", g.item(0, 3, 0, 0), -1);
        DUE.is("cast ahead of index", g.item(0, 0, 3, 0), -12);
        DUE.is("cast", g.item(0, 2, 0, 0), -12);
        DUE.is("index above", g.item(0, 1, 3, 0), -13);
        DUE.is("index below", g.item(0, 1, -1, 0), -13);
        DUE.is("index far above", g.item(0, 1, Integer.MAX_VALUE, 0), -13);
        DUE.is("index far below", g.item(0, 1, Integer.MIN_VALUE, 0), -13);
        DUE.is("the last", g.item(0, 1, 2, 0), 1);
        g.sheet(0, 1, 0);
        DUE.is("index of no items", g.item(0, 1, 0, 0), -13);
    }

    private static void itemKeepsLowestBits() {
        int[][] kept = {
            {0, 256 + 7, 7}, {0, -256 + 63, 63}, {0, 0x12345605, 5}, {0, -100, -100}, {0, 127, 127}, {0, 128, -128},
            {1, 65536 + 1234, 1234}, {1, 0x7fff0000 - 1, -1}, {1, 65536 - 3000, -3000}, {1, 3000, 3000},
            {2, -3000, -3000}, {2, 3000, 3000},
        };
        for (int[] one : kept) {
            RayGround g = new RayGround();
            g.sheet(0, one[0], 4);
            DUE.is("item", g.item(0, one[0], 2, one[1]), 1);
            DUE.is("a point of it", g.points(0, 0, one[0], 0, 1), 1);
            DUE.is("its z", g.told(0, 0, 2), one[2]);
        }
        RayGround g = new RayGround();
        g.sheet(0, 2, 4);
        g.item(0, 2, 0, 65536);
        DUE.is("an int keeps all its bits", g.points(0, 0, 2, 0, 1), -2);
    }

    private static void copyRefuses() {
        RayGround g = new RayGround();
        g.sheet(0, 0, 5);
        g.sheet(1, 1, 6);
        g.sheet(2, 0, 4);
        DUE.is("bad from", g.copy(4, 0, 3, 0, 1), -1);
        DUE.is("bad to", g.copy(3, 0, -1, 0, 1), -1);
        DUE.is("null from", g.copy(3, 0, 0, 0, 1), -11);
        DUE.is("null to, ahead of index", g.copy(0, -1, 3, 0, 1), -11);
        DUE.is("cast ahead of index", g.copy(0, 0, 1, 0, -1), -12);
        DUE.is("n below 0", g.copy(0, 0, 2, 0, -1), -13);
        DUE.is("i below 0", g.copy(0, -1, 2, 0, 1), -13);
        DUE.is("j below 0", g.copy(0, 0, 2, -1, 1), -13);
        DUE.is("beyond the first", g.copy(0, 2, 2, 0, 4), -13);
        DUE.is("beyond the second", g.copy(0, 0, 2, 0, 5), -13);
        DUE.is("sums beyond an int", g.copy(0, 1, 2, 1, Integer.MAX_VALUE), -13);
        DUE.is("sums beyond an int", g.copy(0, Integer.MAX_VALUE, 2, 1, 1), -13);
        DUE.is("n 0 at the end", g.copy(0, 5, 2, 4, 0), 0);
        DUE.is("n 0 behind the first's end", g.copy(0, 6, 2, 0, 0), -13);
        DUE.is("n 0 behind the second's end", g.copy(0, 0, 2, 5, 0), -13);
        DUE.is("n 0 ahead of the first", g.copy(0, -1, 2, 0, 0), -13);
        DUE.is("n 0", g.copy(0, 0, 2, 0, 0), 0);
    }

    private static void copyTakesAllAhead() {
        RayGround g = new RayGround();
        g.sheet(0, 2, 12);
        for (int i = 0; i < 12; i++) {
            g.item(0, 2, i, i % 4 == 3 ? 0 : i + 1);
        }
        DUE.is("to the right of itself", g.copy(0, 0, 0, 4, 8), 8);
        g.points(0, 0, 2, 0, 3);
        DUE.is("the first moved", g.told(0, 1, 0), 1);
        DUE.is("the second moved, as it was", g.told(0, 2, 0), 5);
        RayGround h = new RayGround();
        h.sheet(0, 2, 12);
        for (int i = 0; i < 12; i++) {
            h.item(0, 2, i, i % 4 == 3 ? 0 : i + 1);
        }
        DUE.is("to the left of itself", h.copy(0, 4, 0, 0, 8), 8);
        h.points(0, 0, 2, 0, 3);
        DUE.is("left, the first", h.told(0, 0, 0), 5);
        DUE.is("left, the second", h.told(0, 1, 0), 9);
        DUE.is("left, what stayed", h.told(0, 2, 0), 9);
        h.sheet(1, 2, 6);
        DUE.is("to another", h.copy(0, 0, 1, 2, 4), 4);
        DUE.is("points of another", h.points(1, 1, 2, 2, 1), 1);
        DUE.is("another's x", h.told(1, 0, 0), 5);
        DUE.is("another's y", h.told(1, 0, 1), 6);
        DUE.is("another's z", h.told(1, 0, 2), 7);
    }
}
