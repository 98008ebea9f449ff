/** Promises 1 to 5, edge by edge: what is taken at the ends, the empty and the full, the lowest bits. */
final class SheetEdgesTest {
    private static final Due DUE = new Due("SheetEdgesTest");
    private static final int NULL = -11;
    private static final int CAST = -12;
    private static final int INDEX = -13;
    private static final int SIZE = -14;

    public static void main(String[] args) {
        newYearsHoldNothing();
        newTilesAreNotLost();
        newGridIsGaps();
        newSheetsHoldNothing();
        newTapeIsEmpty();
        sheetsAtBothEnds();
        sheetOfNoItems();
        sheetOf40Items();
        itemsAreZeroAtFirst();
        longerRowIsZeroBehindShorter();
        refusedSheetKeepsItsRow();
        sheetsAreApart();
        dropAnswersHowMany();
        dropLeavesNothing();
        bytesKeepLowestBits();
        shortsKeepLowestBits();
        intsKeepAllBits();
        itemsAtBothEnds();
        copyOfNone();
        copyOfAll();
        copyOverItself();
        copyKeepsTheRest();
        DUE.end();
    }

    private static void newYearsHoldNothing() {
        RayGround g = new RayGround();
        for (int year = 0; year < 2; year++) {
            for (int what = 0; what <= 13; what++) {
                DUE.is("new: count " + what, g.count(year, what), 0);
            }
            for (int strip = 0; strip < 4; strip++) {
                DUE.is("new: shift", g.shift(year, strip, 0), 0);
            }
            DUE.is("new: box", g.box(year, 0, 0, 63, 63), 0);
            DUE.is("new: leftOver", g.leftOver(year), 0);
            DUE.is("new: fit", g.fit(year), -2);
            DUE.is("new: grow", g.grow(year, 100, 100, 20), 0);
            DUE.is("new: roofs", g.roofs(year, 50, 3), 0);
        }
    }

    private static void newTilesAreNotLost() {
        for (int year = 0; year < 2; year++) {
            for (int tile = 0; tile < 16; tile++) {
                RayGround g = new RayGround();
                DUE.is("new: tile " + tile, g.lose(year, tile), 0);
                DUE.is("new: the same tile of the other year", g.lose(1 - year, tile), 0);
            }
        }
    }

    private static void newGridIsGaps() {
        RayGround g = new RayGround();
        for (int square = 0; square < 256; square++) {
            DUE.is("new: grid", g.grid(square % 2, square % 16, square / 16), 100000);
        }
        for (int year = 0; year < 2; year++) {
            DUE.is("new: thirds", g.thirds(year), 0);
            DUE.is("new: volume", g.volume(year, -10000), 0);
            DUE.is("new: lines", g.lines(year, 0, false), 0);
            DUE.is("new: lines closed", g.lines(year, 0, true), 0);
        }
        for (int what = 0; what <= 3; what++) {
            DUE.is("new: changed", g.changed(0, what), 0);
        }
    }

    private static void newSheetsHoldNothing() {
        RayGround g = new RayGround();
        for (int sheet = 0; sheet < 4; sheet++) {
            DUE.is("new: drop", g.drop(sheet), NULL);
            for (int lane = 0; lane < 3; lane++) {
                DUE.is("new: item", g.item(sheet, lane, 0, 0), NULL);
                DUE.is("new: points", g.points(0, sheet, lane, 0, 1), NULL);
            }
            DUE.is("new: copy", g.copy(sheet, 0, sheet, 0, 0), NULL);
        }
    }

    private static void newTapeIsEmpty() {
        DUE.is("new: job", new RayGround().job(0), -20);
        DUE.is("new: job", new RayGround().job(1), -20);
        DUE.is("new: type", new RayGround().type(' ', 1), 1);
    }

    private static void sheetsAtBothEnds() {
        RayGround g = new RayGround();
        for (int sheet = 0; sheet < 4; sheet++) {
            for (int lane = 0; lane < 3; lane++) {
                DUE.is("sheet", g.sheet(sheet, lane, 5 + lane), 5 + lane);
                for (int asked = 0; asked < 3; asked++) {
                    DUE.is("sheet: its lane", g.item(sheet, asked, 4 + lane, 1), asked == lane ? 1 : CAST);
                }
                DUE.is("sheet: its end", g.item(sheet, lane, 5 + lane, 1), INDEX);
            }
        }
    }

    private static void sheetOfNoItems() {
        for (int lane = 0; lane < 3; lane++) {
            RayGround g = new RayGround();
            DUE.is("no items: sheet", g.sheet(0, lane, 0), 0);
            DUE.is("no items: item", g.item(0, lane, 0, 1), INDEX);
            DUE.is("no items: points", g.points(0, 0, lane, 0, 1), INDEX);
            DUE.is("no items: copy of none", g.copy(0, 0, 0, 0, 0), 0);
            DUE.is("no items: copy of one", g.copy(0, 0, 0, 0, 1), INDEX);
            DUE.is("no items: it holds a row all the same", g.drop(0), 0);
            DUE.is("no items: then nothing", g.drop(0), NULL);
        }
    }

    private static void sheetOf40Items() {
        for (int lane = 0; lane < 3; lane++) {
            RayGround g = new RayGround();
            DUE.is("40 items: sheet", g.sheet(3, lane, 40), 40);
            DUE.is("40 items: the first", g.item(3, lane, 0, 1), 1);
            DUE.is("40 items: the last", g.item(3, lane, 39, 3), 1);
            DUE.is("40 items: one beyond", g.item(3, lane, 40, 3), INDEX);
            DUE.is("40 items: ten points", g.points(0, 3, lane, 0, 10), 10);
            DUE.is("40 items: the first point's x", g.told(0, 0, 0), 1);
            DUE.is("40 items: the last point's strip", g.told(0, 9, 3), 3);
            DUE.is("40 items: drop", g.drop(3), 40);
        }
    }

    // Ten points of zeros are seen, wherever the row that was there before had other items.
    private static void itemsAreZeroAtFirst() {
        for (int before = 0; before < 3; before++) {
            for (int lane = 0; lane < 3; lane++) {
                RayGround g = new RayGround();
                g.sheet(1, before, 40);
                for (int i = 0; i < 40; i++) {
                    g.item(1, before, i, 3);
                }
                g.sheet(1, lane, 40);
                allZero("zero at first", g, lane);
            }
        }
    }

    private static void allZero(String what, RayGround g, int lane) {
        DUE.is(what + ": ten points", g.points(0, 1, lane, 0, 10), 10);
        for (int point = 0; point < 10; point++) {
            for (int item = 0; item < 4; item++) {
                DUE.is(what + ": point " + point, g.told(0, point, item), 0);
            }
        }
    }

    private static void longerRowIsZeroBehindShorter() {
        RayGround g = new RayGround();
        g.sheet(1, 2, 40);
        for (int i = 0; i < 40; i++) {
            g.item(1, 2, i, 3);
        }
        g.sheet(1, 2, 4);
        g.sheet(1, 2, 40);
        allZero("shorter, then longer", g, 2);
        for (int i = 0; i < 40; i++) {
            g.item(1, 2, i, 3);
        }
        g.drop(1);
        g.sheet(1, 0, 40);
        g.points(1, 1, 0, 0, 10);
        for (int item = 0; item < 4; item++) {
            DUE.is("dropped, then new", g.told(1, 9, item), 0);
        }
    }

    private static void refusedSheetKeepsItsRow() {
        RayGround g = new RayGround();
        g.sheet(0, 0, 40);
        g.item(0, 0, 39, 3);
        DUE.is("kept: n below 0", g.sheet(0, 2, -1), SIZE);
        DUE.is("kept: n above 40", g.sheet(0, 2, 41), -1);
        DUE.is("kept: its items", g.points(0, 0, 0, 36, 1), 1);
        DUE.is("kept: its last", g.told(0, 0, 3), 3);
        DUE.is("kept: its length", g.drop(0), 40);
    }

    private static void sheetsAreApart() {
        RayGround g = new RayGround();
        for (int sheet = 0; sheet < 4; sheet++) {
            g.sheet(sheet, 2, 4);
            g.item(sheet, 2, 0, 10 + sheet);
        }
        for (int sheet = 0; sheet < 4; sheet++) {
            DUE.is("apart", g.points(0, sheet, 2, 0, 1), sheet + 1);
            DUE.is("apart: each has its own", g.told(0, sheet, 0), 10 + sheet);
        }
        g.drop(2);
        DUE.is("apart: the next holds its row", g.item(3, 2, 3, 0), 1);
        DUE.is("apart: the one before, too", g.item(1, 2, 3, 0), 1);
    }

    private static void dropAnswersHowMany() {
        RayGround g = new RayGround();
        for (int n = 0; n <= 40; n++) {
            g.sheet(n % 4, n % 3, n);
            DUE.is("drop of " + n, g.drop(n % 4), n);
        }
    }

    private static void dropLeavesNothing() {
        for (int sheet = 0; sheet < 4; sheet++) {
            RayGround g = new RayGround();
            g.sheet(sheet, 1, 8);
            DUE.is("dropped", g.drop(sheet), 8);
            DUE.is("dropped: drop", g.drop(sheet), NULL);
            DUE.is("dropped: item", g.item(sheet, 1, 0, 0), NULL);
            DUE.is("dropped: points", g.points(0, sheet, 1, 0, 1), NULL);
            g.sheet((sheet + 1) % 4, 1, 8);
            DUE.is("dropped: copy from", g.copy(sheet, 0, (sheet + 1) % 4, 0, 1), NULL);
            DUE.is("dropped: copy to", g.copy((sheet + 1) % 4, 0, sheet, 0, 1), NULL);
        }
    }

    /** What a z becomes, that is put into a row of a lane; -9999 if it is no z. */
    private static int kept(int lane, int v) {
        RayGround g = new RayGround();
        g.sheet(0, lane, 4);
        DUE.is("item " + v, g.item(0, lane, 2, v), 1);
        return g.points(0, 0, lane, 0, 1) == 1 ? g.told(0, 0, 2) : -9999;
    }

    private static void bytesKeepLowestBits() {
        int[][] cases = {{0, 0}, {127, 127}, {128, -128}, {129, -127}, {255, -1}, {256, 0}, {257, 1}, {-1, -1},
            {-128, -128}, {-129, 127}, {-255, 1}, {-256, 0}, {32767, -1}, {32768, 0}, {65535, -1}, {65536 + 5, 5},
            {0x7fffff80, -128}, {0x80000000 + 127, 127}, {Integer.MAX_VALUE, -1}, {Integer.MIN_VALUE, 0}};
        for (int[] c : cases) {
            DUE.is("a byte of " + c[0], kept(0, c[0]), c[1]);
        }
    }

    private static void shortsKeepLowestBits() {
        int[][] cases = {{0, 0}, {127, 127}, {128, 128}, {255, 255}, {256, 256}, {-129, -129}, {3000, 3000},
            {-3000, -3000}, {65535, -1}, {65536, 0}, {65537, 1}, {-65536, 0}, {-65537, -1}, {65536 + 3000, 3000},
            {65536 - 3000, -3000}, {-65536 - 3000, -3000}, {-65536 + 3000, 3000}, {Integer.MAX_VALUE, -1},
            {Integer.MIN_VALUE, 0}, {Integer.MIN_VALUE + 3000, 3000}, {32767, -9999}, {32768, -9999},
            {3001, -9999}, {-3001, -9999}, {65536 + 3001, -9999}};
        for (int[] c : cases) {
            DUE.is("a short of " + c[0], kept(1, c[0]), c[1]);
        }
    }

    private static void intsKeepAllBits() {
        int[][] cases = {{0, 0}, {128, 128}, {256, 256}, {-129, -129}, {3000, 3000}, {-3000, -3000}, {65535, -9999},
            {65536, -9999}, {-65536, -9999}, {65536 + 3000, -9999}, {1 << 24, -9999}, {Integer.MAX_VALUE, -9999},
            {Integer.MIN_VALUE, -9999}};
        for (int[] c : cases) {
            DUE.is("an int of " + c[0], kept(2, c[0]), c[1]);
        }
    }

    private static void itemsAtBothEnds() {
        for (int n = 1; n <= 40; n += 13) {
            for (int lane = 0; lane < 3; lane++) {
                RayGround g = new RayGround();
                g.sheet(0, lane, n);
                DUE.is("item: the first of " + n, g.item(0, lane, 0, 7), 1);
                DUE.is("item: the last of " + n, g.item(0, lane, n - 1, 7), 1);
                DUE.is("item: one behind", g.item(0, lane, n, 7), INDEX);
                DUE.is("item: one ahead", g.item(0, lane, -1, 7), INDEX);
            }
        }
    }

    private static void copyOfNone() {
        RayGround g = new RayGround();
        g.sheet(0, 1, 40);
        g.sheet(1, 1, 8);
        DUE.is("copy of none: at both ends", g.copy(0, 40, 1, 8, 0), 0);
        DUE.is("copy of none: i beyond", g.copy(0, 41, 1, 8, 0), INDEX);
        DUE.is("copy of none: j beyond", g.copy(0, 40, 1, 9, 0), INDEX);
        DUE.is("copy of none: i below", g.copy(0, -1, 1, 8, 0), INDEX);
        DUE.is("copy of none: j below", g.copy(0, 40, 1, -1, 0), INDEX);
        DUE.is("copy of less than none", g.copy(0, 0, 1, 0, -1), INDEX);
        DUE.is("copy of less than none, from the end", g.copy(0, 40, 1, 8, -1), INDEX);
    }

    private static void copyOfAll() {
        for (int lane = 0; lane < 3; lane++) {
            RayGround g = new RayGround();
            g.sheet(0, lane, 40);
            g.sheet(1, lane, 40);
            for (int i = 0; i < 40; i++) {
                g.item(0, lane, i, i % 4 == 3 ? i % 3 : i);
            }
            DUE.is("copy of 40", g.copy(0, 0, 1, 0, 40), 40);
            DUE.is("copy of 41", g.copy(0, 0, 1, 0, 41), INDEX);
            DUE.is("copy of 40 onto itself", g.copy(0, 0, 0, 0, 40), 40);
            for (int sheet = 0; sheet < 2; sheet++) {
                g.points(sheet, sheet, lane, 0, 10);
                for (int i = 0; i < 40; i++) {
                    DUE.is("copy of 40: item " + i, g.told(sheet, i / 4, i % 4), i % 4 == 3 ? i % 3 : i);
                }
            }
        }
    }

    // Item i is i, but for the strips; moved by one point in either direction, all as they were ahead of it.
    private static void copyOverItself() {
        for (int lane = 0; lane < 3; lane++) {
            for (int right = 0; right < 2; right++) {
                RayGround g = new RayGround();
                g.sheet(0, lane, 40);
                for (int i = 0; i < 40; i++) {
                    g.item(0, lane, i, i % 4 == 3 ? 0 : i);
                }
                DUE.is("over itself", g.copy(0, 4 - 4 * right, 0, 4 * right, 36), 36);
                g.points(0, 0, lane, 0, 10);
                for (int point = 0; point < 10; point++) {
                    int from = right == 1 ? Math.max(point - 1, 0) : Math.min(point + 1, 9);
                    for (int item = 0; item < 3; item++) {
                        DUE.is("over itself: point " + point, g.told(0, point, item), 4 * from + item);
                    }
                }
            }
        }
    }

    private static void copyKeepsTheRest() {
        RayGround g = new RayGround();
        g.sheet(0, 2, 12);
        g.sheet(1, 2, 12);
        for (int i = 0; i < 12; i++) {
            g.item(0, 2, i, i % 4 == 3 ? 0 : 10 + i);
            g.item(1, 2, i, i % 4 == 3 ? 0 : 40 + i);
        }
        DUE.is("a part: copy", g.copy(0, 1, 1, 5, 2), 2);
        DUE.is("a part: one at the end", g.copy(0, 0, 1, 10, 1), 1);
        g.points(0, 1, 2, 0, 3);
        int[] want = {40, 41, 42, 0, 44, 11, 12, 0, 48, 49, 10, 0};
        for (int i = 0; i < 12; i++) {
            DUE.is("a part: item " + i, g.told(0, i / 4, i % 4), want[i]);
        }
        g.points(1, 0, 2, 0, 3);
        for (int i = 0; i < 12; i++) {
            DUE.is("a part: the first stays", g.told(1, i / 4, i % 4), i % 4 == 3 ? 0 : 10 + i);
        }
    }
}
