/** Promises 6 to 10, edge by edge: the ends of points, tiles, boxes, shifts; no points and 100. */
final class PointEdgesTest {
    private static final Due DUE = new Due("PointEdgesTest");
    private static final Refused REFUSED = new Refused(DUE);
    private static final int NOT = -2;
    private static final int TOO_MANY = -3;
    private static final int INDEX = -13;

    public static void main(String[] args) {
        onePointAndTen();
        fromTheFirstAndTheLast();
        endsOfAPoint();
        beyondTheEndsOfAPoint();
        beyondByWholeInts();
        oneOfTenIsNotAsTold();
        oneOfTenIsInALostTile();
        lostTilesTakeNone();
        aHundredPoints();
        tenAtTheEndOfAHundred();
        yearsAreFullApart();
        roomBehindALoss();
        pointsAreCopies();
        endsOfHeights();
        toldOfEachKind();
        tilesAtTheirEdges();
        loseNone();
        loseAHundred();
        loseAllTiles();
        numbersThatAreLeft();
        boxOfOnePlace();
        boxOfAll();
        boxAtItsEdges();
        boxTurnedRound();
        boxAtTheEdgesOfALostTile();
        shiftAtItsEnds();
        shiftOfEachStrip();
        DUE.end();
    }

    private static void onePointAndTen() {
        for (int n = 1; n <= 10; n++) {
            RayGround g = new RayGround();
            g.sheet(0, 0, 4 * n);
            for (int i = 0; i < 4 * n; i++) {
                g.item(0, 0, i, i % 4 == 3 ? 3 : i);
            }
            DUE.is("n points", g.points(1, 0, 0, 0, n), n);
            DUE.is("n points: one more", g.points(1, 0, 0, 4 * n - 4, 1), n + 1);
            DUE.is("n points: the last's x", g.told(1, n, 0), 4 * n - 4);
            DUE.is("n points: the last's y", g.told(1, n - 1, 1), 4 * n - 3);
            DUE.is("n points: the last's z", g.told(1, n - 1, 2), 4 * n - 2);
            DUE.is("n points: too many items", g.points(1, 0, 0, 1, n), INDEX);
            DUE.is("n points: 0 points", g.points(1, 0, 0, 0, 0), -1);
        }
    }

    private static void fromTheFirstAndTheLast() {
        RayGround g = new RayGround();
        g.sheet(0, 1, 11);
        for (int i = 0; i < 11; i++) {
            g.item(0, 1, i, i == 4 || i == 6 || i == 10 ? 1 : i);
        }
        DUE.is("from 3 on", g.points(0, 0, 1, 3, 1), 1);
        DUE.is("from 3 on, two", g.points(0, 0, 1, 3, 2), 3);
        DUE.is("from 7 on, the last", g.points(0, 0, 1, 7, 1), 4);
        DUE.is("from 8 on, beyond", g.points(0, 0, 1, 8, 1), INDEX);
        DUE.is("from 4 on, beyond", g.points(0, 0, 1, 4, 2), INDEX);
        DUE.is("ahead of the first", g.points(0, 0, 1, -1, 1), INDEX);
        int[] want = {3, 1, 5, 1, 3, 1, 5, 1, 7, 8, 9, 1, 7, 8, 9, 1};
        for (int i = 0; i < want.length; i++) {
            DUE.is("from there on: " + i, g.told(0, i / 4, i % 4), want[i]);
        }
    }

    private static RayGround with(int lane, int x, int y, int z, int strip) {
        RayGround g = new RayGround();
        g.sheet(0, lane, 4);
        g.item(0, lane, 0, x);
        g.item(0, lane, 1, y);
        g.item(0, lane, 2, z);
        g.item(0, lane, 3, strip);
        return g;
    }

    private static void endsOfAPoint() {
        for (int lane = 0; lane < 3; lane++) {
            int low = lane == 0 ? -128 : -3000;
            int high = lane == 0 ? 127 : 3000;
            int[][] points = {{0, 0, low, 0}, {63, 0, high, 3}, {0, 63, low, 3}, {63, 63, high, 0}};
            for (int[] p : points) {
                for (int year = 0; year < 2; year++) {
                    RayGround g = with(lane, p[0], p[1], p[2], p[3]);
                    DUE.is("an end: it comes", g.points(year, 0, lane, 0, 1), 1);
                    for (int what = 0; what < 4; what++) {
                        DUE.is("an end: told " + what, g.told(year, 0, what), p[what]);
                    }
                }
            }
        }
    }

    private static void beyondTheEndsOfAPoint() {
        for (int lane = 0; lane < 3; lane++) {
            int asked = lane;
            int[][] points = {{-1, 0, 0, 0}, {64, 0, 0, 0}, {0, -1, 0, 0}, {0, 64, 0, 0}, {0, 0, 0, -1}, {0, 0, 0, 4},
                {127, 0, 0, 0}, {-128, 0, 0, 0}, {0, 127, 0, 0}, {0, -128, 0, 0}, {0, 0, 0, 127}, {0, 0, 0, -128},
                {-1, 16, 0, 0}, {64, 1, 0, 0}, {16, -1, 0, 0}};
            for (int[] p : points) {
                REFUSED.is("beyond an end, lane " + lane, () -> with(asked, p[0], p[1], p[2], p[3]), NOT,
                    g -> g.points(0, 0, asked, 0, 1));
            }
        }
        for (int lane = 1; lane < 3; lane++) {
            int asked = lane;
            for (int z : new int[] {-3001, 3001, -32768, 32767}) {
                REFUSED.is("beyond an end, z " + z, () -> with(asked, 0, 0, z, 0), NOT,
                    g -> g.points(0, 0, asked, 0, 1));
            }
        }
    }

    private static void beyondByWholeInts() {
        for (int item = 0; item < 4; item++) {
            for (int v : new int[] {Integer.MIN_VALUE, Integer.MAX_VALUE, 65536, 256}) {
                int[] p = new int[4];
                p[item] = v;
                if (item != 2 || v != 256) {
                    REFUSED.is("an int of " + v, () -> with(2, p[0], p[1], p[2], p[3]), NOT,
                        g -> g.points(1, 0, 2, 0, 1));
                }
            }
        }
    }

    private static void oneOfTenIsNotAsTold() {
        int[][] wrong = {{0, -1}, {0, 64}, {1, -1}, {1, 64}, {2, -3001}, {2, 3001}, {3, -1}, {3, 4}};
        for (int place = 0; place < 10; place++) {
            int from = 4 * place;
            for (int[] w : wrong) {
                Look.Maker ten = () -> {
                    RayGround g = Scene.rich();
                    g.sheet(3, 1, 40);
                    g.item(3, 1, from + w[0], w[1]);
                    return g;
                };
                REFUSED.is("point " + place + " of ten is not as told", ten, NOT, g -> g.points(0, 3, 1, 0, 10));
            }
        }
    }

    private static void oneOfTenIsInALostTile() {
        for (int place = 0; place < 10; place++) {
            int from = 4 * place;
            Look.Maker ten = () -> {
                RayGround g = Scene.rich();
                g.sheet(3, 0, 40);
                g.item(3, 0, from, 16);
                g.item(3, 0, from + 1, 31);
                return g;
            };
            REFUSED.is("point " + place + " of ten is in a lost tile", ten, NOT, g -> g.points(0, 3, 0, 0, 10));
            DUE.is("it is not lost in the other year", ten.make().points(1, 3, 0, 0, 10), 15);
        }
    }

    private static void lostTilesTakeNone() {
        for (int tile = 0; tile < 16; tile++) {
            RayGround g = new RayGround();
            int x = 16 * (tile % 4);
            int y = 16 * (tile / 4);
            g.lose(0, tile);
            DUE.is("lost: its first place", Due.put(g, 0, x, y, 0, 0), NOT);
            DUE.is("lost: its last place", Due.put(g, 0, x + 15, y + 15, 0, 0), NOT);
            DUE.is("lost: its corner", Due.put(g, 0, x + 15, y, 0, 0), NOT);
            DUE.is("lost: its corner", Due.put(g, 0, x, y + 15, 0, 0), NOT);
            int[][] around = {{x - 1, y}, {x + 16, y}, {x, y - 1}, {x, y + 16}};
            int came = 0;
            for (int[] place : around) {
                if (place[0] >= 0 && place[0] <= 63 && place[1] >= 0 && place[1] <= 63) {
                    came++;
                    DUE.is("lost: beside it", Due.put(g, 0, place[0], place[1], 0, 0), came);
                }
            }
            DUE.is("lost: the other year", Due.put(g, 1, x, y, 0, 0), 1);
        }
    }

    private static void aHundredPoints() {
        RayGround g = new RayGround();
        g.sheet(0, 0, 40);
        for (int k = 1; k < 10; k++) {
            g.points(0, 0, 0, 0, 10);
        }
        DUE.is("100: 99", g.points(0, 0, 0, 0, 9), 99);
        DUE.is("100: two more", g.points(0, 0, 0, 0, 2), TOO_MANY);
        DUE.is("100: still 99", g.count(0, 11), 99);
        DUE.is("100: point 99", g.told(0, 99, 0), -10001);
        DUE.is("100: one more", g.points(0, 0, 0, 0, 1), 100);
        DUE.is("100: point 99", g.told(0, 99, 0), 0);
        DUE.is("100: point 100", g.told(0, 100, 0), -10001);
        DUE.is("100: one beyond", g.points(0, 0, 0, 0, 1), TOO_MANY);
        DUE.is("100: all of them", g.count(0, 11), 100);
        DUE.is("100: in a box", g.box(0, 0, 0, 0, 0), 100);
    }

    private static void tenAtTheEndOfAHundred() {
        for (int had = 90; had <= 100; had++) {
            for (int n = 1; n <= 10; n++) {
                RayGround g = new RayGround();
                g.sheet(0, 0, 40);
                for (int k = 0; k < 9; k++) {
                    g.points(1, 0, 0, 0, 10);
                }
                if (had > 90) {
                    g.points(1, 0, 0, 0, had - 90);
                }
                DUE.is(had + " and " + n, g.points(1, 0, 0, 0, n), had + n > 100 ? TOO_MANY : had + n);
                DUE.is(had + " and " + n + ": all", g.count(1, 11), had + n > 100 ? had : had + n);
            }
        }
    }

    private static void yearsAreFullApart() {
        RayGround g = Scene.full();
        DUE.is("year 0 is full", g.points(0, 0, 0, 0, 1), TOO_MANY);
        DUE.is("year 1 is not", g.points(1, 0, 0, 0, 10), 10);
        DUE.is("year 0 has its own", g.count(0, 11), 100);
        DUE.is("year 1 has its own", g.count(1, 11), 10);
    }

    private static void roomBehindALoss() {
        RayGround g = Scene.full();
        DUE.is("room: all go", g.lose(0, 0), 100);
        DUE.is("room: none are left", g.count(0, 11), 0);
        DUE.is("room: no point 0", g.told(0, 0, 0), -10001);
        g.item(0, 0, 0, 16);
        DUE.is("room: one comes", g.points(0, 0, 0, 0, 1), 1);
        DUE.is("room: it is point 0", g.told(0, 0, 0), 16);
        DUE.is("room: none comes to what is lost", g.points(0, 0, 0, 4, 1), NOT);
    }

    // What becomes of a row does not change the points that came from it.
    private static void pointsAreCopies() {
        RayGround g = with(2, 5, 6, 7, 1);
        g.points(0, 0, 2, 0, 1);
        g.item(0, 2, 0, 50);
        DUE.is("copies: x stays", g.told(0, 0, 0), 5);
        g.sheet(0, 2, 4);
        DUE.is("copies: z stays", g.told(0, 0, 2), 7);
        g.drop(0);
        DUE.is("copies: the strip stays", g.told(0, 0, 3), 1);
    }

    private static void endsOfHeights() {
        RayGround g = new RayGround();
        Due.put(g, 0, 0, 0, 3000, 3, 0, 0, -3000, 0, 0, 0, 3000, 0);
        g.shift(0, 3, 1000);
        g.shift(0, 0, -1000);
        DUE.is("the highest height", g.told(0, 0, 2), 4000);
        DUE.is("the lowest height", g.told(0, 1, 2), -4000);
        DUE.is("the highest z, the lowest shift", g.told(0, 2, 2), 2000);
        g.hand(0, 0, 1);
        DUE.is("the highest grid", g.grid(0, 0, 0), 4000);
        g.hand(0, 1, 1);
        DUE.is("the lowest grid", g.grid(0, 0, 0), -4000);
    }

    private static void toldOfEachKind() {
        RayGround g = Scene.rich();
        int[][] want = {
            {0, 0, 0, 0, 1, 0, 0}, {2, 0, 4, 1, 1, 0, 1}, {9, 0, 63, 2, 1, 1, 0}, {9, 9, 22, 3, 2, 2, -1},
            {1, 4, 100, 0, 3, 0, -1}, {5, 4, 100, 0, 3, 0, -1}, {1, 8, 100, 0, 3, 0, -1}, {5, 8, 100, 0, 3, 0, -1},
            {15, 15, 900, 0, 2, 0, -1}, {60, 2, 6, 1, 0, 0, -1},
        };
        for (int point = 0; point < want.length; point++) {
            for (int what = 0; what <= 6; what++) {
                DUE.is("point " + point + " told " + what, g.told(0, point, what), want[point][what]);
            }
        }
    }

    private static void tilesAtTheirEdges() {
        int[] edges = {0, 15, 16, 31, 32, 47, 48, 63};
        for (int x : edges) {
            for (int y : edges) {
                RayGround g = new RayGround();
                Due.put(g, 0, x, y, 0, 0);
                int tile = x / 16 + 4 * (y / 16);
                for (int other = 0; other < 16; other++) {
                    if (other != tile) {
                        DUE.is("of another tile", g.lose(0, other), 0);
                    }
                }
                DUE.is("of its tile", g.lose(0, tile), 1);
            }
        }
    }

    private static void loseNone() {
        RayGround g = new RayGround();
        DUE.is("lose: none went", g.lose(0, 3), 0);
        DUE.is("lose: it is lost all the same", g.lose(0, 3), NOT);
        DUE.is("lose: count", g.count(0, 12), 1);
        DUE.is("lose: the other year's is not", g.lose(1, 3), 0);
    }

    private static void loseAHundred() {
        RayGround g = new RayGround();
        for (int k = 0; k < 10; k++) {
            g.sheet(0, 0, 40);
            g.points(0, 0, 0, 0, 10);
        }
        DUE.is("lose 100: of another tile", g.lose(0, 1), 0);
        DUE.is("lose 100", g.lose(0, 0), 100);
        DUE.is("lose 100: none are left", g.count(0, 11), 0);
        DUE.is("lose 100: none are open", g.count(0, 0), 0);
        DUE.is("lose 100: it is lost", g.lose(0, 0), NOT);
    }

    private static void loseAllTiles() {
        RayGround g = new RayGround();
        Due.put(g, 0, 0, 0, 0, 0, 63, 63, 0, 0, 20, 40, 0, 0);
        int went = 0;
        for (int tile = 0; tile < 16; tile++) {
            went += g.lose(0, tile);
            DUE.is("all tiles: count", g.count(0, 12), tile + 1);
        }
        DUE.is("all tiles: all went", went, 3);
        DUE.is("all tiles: none come", Due.put(g, 0, 40, 20, 0, 0), NOT);
        DUE.is("all tiles: no box", g.box(0, 30, 30, 30, 30), NOT);
        DUE.is("all tiles: none to grow", g.grow(0, 1, 1, 1), 0);
        DUE.is("all tiles: the other year's", g.count(1, 12), 0);
    }

    private static void numbersThatAreLeft() {
        RayGround g = new RayGround();
        for (int k = 0; k < 10; k++) {
            int[] items = new int[40];
            for (int p = 0; p < 10; p++) {
                items[4 * p] = (10 * k + p) % 3 == 0 ? 20 : 40;
                items[4 * p + 2] = 10 * k + p;
            }
            Due.put(g, 0, items);
        }
        DUE.is("left: every third went", g.lose(0, 1), 34);
        DUE.is("left: the rest", g.count(0, 11), 66);
        for (int p = 0; p < 66; p++) {
            DUE.is("left: in order", g.told(0, p, 2), p / 2 * 3 + 1 + p % 2);
        }
        DUE.is("left: no more", g.told(0, 66, 2), -10001);
    }

    private static void boxOfOnePlace() {
        RayGround g = new RayGround();
        Due.put(g, 0, 0, 0, 0, 0, 63, 63, 0, 0, 63, 0, 0, 0, 63, 0, 5, 1);
        DUE.is("one place: the first", g.box(0, 0, 0, 0, 0), 1);
        DUE.is("one place: the last", g.box(0, 63, 63, 63, 63), 1);
        DUE.is("one place: two there", g.box(0, 63, 0, 63, 0), 2);
        DUE.is("one place: none there", g.box(0, 0, 63, 0, 63), 0);
    }

    private static void boxOfAll() {
        RayGround g = Scene.full();
        DUE.is("all: 100", g.box(0, 0, 0, 63, 63), 100);
        DUE.is("all: none beside them", g.box(0, 1, 0, 63, 63), 0);
        DUE.is("all: none above them", g.box(0, 0, 1, 63, 63), 0);
        DUE.is("all: of no points", g.box(1, 0, 0, 63, 63), 0);
    }

    private static void boxAtItsEdges() {
        RayGround g = new RayGround();
        Due.put(g, 0, 30, 31, 0, 0);
        DUE.is("edges: on the left one", g.box(0, 30, 0, 63, 63), 1);
        DUE.is("edges: left of it", g.box(0, 31, 0, 63, 63), 0);
        DUE.is("edges: on the right one", g.box(0, 0, 0, 30, 63), 1);
        DUE.is("edges: right of it", g.box(0, 0, 0, 29, 63), 0);
        DUE.is("edges: on the lower one", g.box(0, 0, 31, 63, 63), 1);
        DUE.is("edges: below it", g.box(0, 0, 32, 63, 63), 0);
        DUE.is("edges: on the upper one", g.box(0, 0, 0, 63, 31), 1);
        DUE.is("edges: above it", g.box(0, 0, 0, 63, 30), 0);
    }

    private static void boxTurnedRound() {
        Look.Maker one = () -> {
            RayGround g = new RayGround();
            Due.put(g, 0, 5, 5, 0, 0);
            return g;
        };
        REFUSED.is("turned round by x", one, -1, g -> g.box(0, 6, 5, 5, 5));
        REFUSED.is("turned round by y", one, -1, g -> g.box(0, 5, 6, 5, 5));
        REFUSED.is("turned round by both", one, -1, g -> g.box(0, 63, 63, 0, 0));
        DUE.is("not turned round", one.make().box(0, 5, 5, 5, 5), 1);
    }

    private static void boxAtTheEdgesOfALostTile() {
        for (int tile = 0; tile < 16; tile++) {
            RayGround g = new RayGround();
            g.lose(0, tile);
            int x = 16 * (tile % 4);
            int y = 16 * (tile / 4);
            DUE.is("touches its first place", g.box(0, 0, 0, x, y), NOT);
            DUE.is("touches its last place", g.box(0, x + 15, y + 15, 63, 63), NOT);
            DUE.is("touches its last x, first y", g.box(0, x + 15, 0, 63, y), NOT);
            DUE.is("touches its first x, last y", g.box(0, 0, y + 15, x, 63), NOT);
            DUE.is("lies in it", g.box(0, x + 7, y + 7, x + 7, y + 8), NOT);
            DUE.is("it lies in the box", g.box(0, 0, 0, 63, 63), NOT);
            if (x > 0) {
                DUE.is("short of it by x", g.box(0, 0, 0, x - 1, 63), 0);
            }
            if (y > 0) {
                DUE.is("short of it by y", g.box(0, 0, 0, 63, y - 1), 0);
            }
            if (x < 48) {
                DUE.is("behind it by x", g.box(0, x + 16, 0, 63, 63), 0);
            }
            if (y < 48) {
                DUE.is("behind it by y", g.box(0, 0, y + 16, 63, 63), 0);
            }
            DUE.is("the other year's", g.box(1, 0, 0, 63, 63), 0);
        }
    }

    private static void shiftAtItsEnds() {
        for (int by : new int[] {-1000, -999, 0, 999, 1000}) {
            RayGround g = new RayGround();
            Due.put(g, 1, 0, 0, 5, 2);
            DUE.is("shift: it was 0", g.shift(1, 2, by), 0);
            DUE.is("shift: a height", g.told(1, 0, 2), 5 + by);
            DUE.is("shift: beyond", g.shift(1, 2, by < 0 ? -1001 : 1001), -10001);
            DUE.is("shift: what it was", g.shift(1, 2, 0), by);
            DUE.is("shift: the height is z again", g.told(1, 0, 2), 5);
        }
    }

    private static void shiftOfEachStrip() {
        RayGround g = new RayGround();
        for (int year = 0; year < 2; year++) {
            for (int strip = 0; strip < 4; strip++) {
                Due.put(g, year, 0, 0, 0, strip);
                DUE.is("each strip was 0", g.shift(year, strip, 100 * year + strip + 1), 0);
            }
        }
        for (int year = 0; year < 2; year++) {
            for (int strip = 0; strip < 4; strip++) {
                DUE.is("each strip: its height", g.told(year, strip, 2), 100 * year + strip + 1);
                DUE.is("each strip: what it was", g.shift(year, strip, 0), 100 * year + strip + 1);
            }
        }
    }
}
