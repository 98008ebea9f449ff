/**
 * Of each number of each call the first that is not taken at both ends, and an int's own least and most: the answer,
 * and that nothing changes. That the ends themselves are taken is asked too; what they do is told by the edge tests.
 */
final class NumbersTest {
    private static final Due DUE = new Due("NumbersTest");
    private static final Refused REFUSED = new Refused(DUE);
    private static final Look.Maker RICH = Scene::rich;
    private static final Look.Maker FULL = Scene::full;
    private static final Look.Maker NEW = RayGround::new;
    private static final int BAD = -1;
    private static final int INDEX = -13;
    private static final int SIZE = -14;

    public static void main(String[] args) {
        sheetNumbers();
        dropNumbers();
        itemNumbers();
        copyNumbers();
        copyNumbersOfNone();
        pointsNumbers();
        toldNumbers();
        toldOfNoneAndOfAll();
        loseNumbers();
        boxNumbers();
        shiftNumbers();
        fitNumbers();
        handNumbers();
        handOfNoneAndOfAll();
        growNumbers();
        roofsNumbers();
        countNumbers();
        gridNumbers();
        volumeNumbers();
        thirdsNumbers();
        linesNumbers();
        changedNumbers();
        typeNumbers();
        typeBytes();
        jobNumbers();
        DUE.end();
    }

    private static void sheetNumbers() {
        REFUSED.beyond("sheet: the sheet", RICH, 0, 3, BAD, (g, v) -> g.sheet(v, 1, 4));
        REFUSED.beyond("sheet: the lane", RICH, 0, 2, BAD, (g, v) -> g.sheet(1, v, 4));
        DUE.is("sheet: n 0", RICH.make().sheet(1, 1, 0), 0);
        DUE.is("sheet: n 40", RICH.make().sheet(1, 1, 40), 40);
        for (int n : new int[] {41, 42, 1000, Integer.MAX_VALUE}) {
            REFUSED.is("sheet: n " + n, RICH, BAD, g -> g.sheet(1, 1, n));
            REFUSED.is("sheet: n " + n + " where it holds nothing", RICH, BAD, g -> g.sheet(3, 1, n));
        }
        for (int n : new int[] {-1, -2, -40, -41, Integer.MIN_VALUE}) {
            REFUSED.is("sheet: n " + n, RICH, SIZE, g -> g.sheet(1, 1, n));
            REFUSED.is("sheet: n " + n + " where it holds nothing", RICH, SIZE, g -> g.sheet(3, 1, n));
        }
    }

    private static void dropNumbers() {
        REFUSED.beyond("drop: the sheet", RICH, 0, 3, BAD, (g, v) -> g.drop(v));
        REFUSED.is("drop: it holds nothing", RICH, -11, g -> g.drop(3));
    }

    private static void itemNumbers() {
        REFUSED.beyond("item: the sheet", RICH, 0, 3, BAD, (g, v) -> g.item(v, 2, 3, 9));
        REFUSED.beyond("item: the lane", RICH, 0, 2, BAD, (g, v) -> g.item(1, v, 3, 9));
        REFUSED.beyond("item: i of 8", RICH, 0, 7, INDEX, (g, v) -> g.item(0, 0, v, 9));
        REFUSED.beyond("item: i of 40", RICH, 0, 39, INDEX, (g, v) -> g.item(1, 1, v, 9));
        Look.Maker none = () -> {
            RayGround g = Scene.rich();
            g.sheet(2, 2, 0);
            return g;
        };
        for (int i : new int[] {0, -1, 1, Integer.MIN_VALUE, Integer.MAX_VALUE}) {
            REFUSED.is("item: " + i + " of none", none, INDEX, g -> g.item(2, 2, i, 9));
        }
    }

    private static void copyNumbers() {
        REFUSED.beyond("copy: from", RICH, 0, 3, BAD, (g, v) -> g.copy(v, 0, 1, 8, 2));
        REFUSED.beyond("copy: to", RICH, 0, 3, BAD, (g, v) -> g.copy(1, 0, v, 8, 2));
        REFUSED.beyond("copy: i of 2 items", RICH, 0, 38, INDEX, (g, v) -> g.copy(1, v, 1, 5, 2));
        REFUSED.beyond("copy: j of 2 items", RICH, 0, 38, INDEX, (g, v) -> g.copy(1, 5, 1, v, 2));
        REFUSED.beyond("copy: i of 1 item", RICH, 0, 39, INDEX, (g, v) -> g.copy(1, v, 1, 5, 1));
        REFUSED.beyond("copy: j of 1 item", RICH, 0, 39, INDEX, (g, v) -> g.copy(1, 5, 1, v, 1));
        REFUSED.beyond("copy: n", RICH, 0, 40, INDEX, (g, v) -> g.copy(1, 0, 1, 0, v));
        REFUSED.beyond("copy: n from 5 on", RICH, 0, 35, INDEX, (g, v) -> g.copy(1, 5, 1, 0, v));
        REFUSED.beyond("copy: n to 5 on", RICH, 0, 35, INDEX, (g, v) -> g.copy(1, 0, 1, 5, v));
        REFUSED.is("copy: all of them as large as they may be", RICH, INDEX,
            g -> g.copy(1, Integer.MAX_VALUE, 1, Integer.MAX_VALUE, Integer.MAX_VALUE));
        REFUSED.is("copy: i and n, whose sum is 0 as an int", RICH, INDEX,
            g -> g.copy(1, Integer.MIN_VALUE, 1, 0, Integer.MIN_VALUE));
    }

    private static void copyNumbersOfNone() {
        REFUSED.beyond("copy of none: i", RICH, 0, 40, INDEX, (g, v) -> g.copy(1, v, 1, 5, 0));
        REFUSED.beyond("copy of none: j", RICH, 0, 40, INDEX, (g, v) -> g.copy(1, 5, 1, v, 0));
        Look.Maker empty = () -> {
            RayGround g = Scene.rich();
            g.sheet(2, 1, 0);
            return g;
        };
        REFUSED.beyond("copy of none, from a row of none: i", empty, 0, 0, INDEX, (g, v) -> g.copy(2, v, 1, 0, 0));
        REFUSED.beyond("copy of none, to a row of none: j", empty, 0, 0, INDEX, (g, v) -> g.copy(1, 0, 2, v, 0));
        REFUSED.beyond("copy, from a row of none: n", empty, 0, 0, INDEX, (g, v) -> g.copy(2, 0, 1, 0, v));
        REFUSED.beyond("copy, to a row of none: n", empty, 0, 0, INDEX, (g, v) -> g.copy(1, 0, 2, 0, v));
    }

    private static void pointsNumbers() {
        REFUSED.beyond("points: the year", RICH, 0, 1, BAD, (g, v) -> g.points(v, 2, 2, 0, 1));
        REFUSED.beyond("points: the sheet", RICH, 0, 3, BAD, (g, v) -> g.points(0, v, 2, 0, 1));
        REFUSED.beyond("points: the lane", RICH, 0, 2, BAD, (g, v) -> g.points(0, 2, v, 0, 1));
        REFUSED.beyond("points: n", RICH, 1, 10, BAD, (g, v) -> g.points(0, 1, 1, 0, v));
        REFUSED.beyond("points: from, of 1", RICH, 0, 36, INDEX, (g, v) -> g.points(0, 1, 1, v, 1));
        REFUSED.beyond("points: from, of 2", RICH, 0, 32, INDEX, (g, v) -> g.points(0, 1, 1, v, 2));
        REFUSED.beyond("points: from, of 10", RICH, 0, 0, INDEX, (g, v) -> g.points(0, 1, 1, v, 10));
        REFUSED.is("points: 3 of 8 items", RICH, INDEX, g -> g.points(0, 0, 0, 0, 3));
        REFUSED.is("points: 4 n, whose ints wrap around", RICH, BAD, g -> g.points(0, 1, 1, 0, 1 << 30));
    }

    private static void toldNumbers() {
        REFUSED.beyond("told: the year", RICH, 0, 1, -10001, (g, v) -> g.told(v, 0, 0));
        REFUSED.beyond("told: the point, year 0", RICH, 0, 9, -10001, (g, v) -> g.told(0, v, 0));
        REFUSED.beyond("told: the point, year 1", RICH, 0, 4, -10001, (g, v) -> g.told(1, v, 0));
        REFUSED.beyond("told: what", RICH, 0, 6, -10001, (g, v) -> g.told(0, 2, v));
    }

    private static void toldOfNoneAndOfAll() {
        for (int what = 0; what <= 6; what++) {
            int asked = what;
            REFUSED.is("told " + what + " of no points", NEW, -10001, g -> g.told(0, 0, asked));
            REFUSED.beyond("told " + what + " of 100 points", FULL, 0, 99, -10001, (g, v) -> g.told(0, v, asked));
        }
    }

    private static void loseNumbers() {
        REFUSED.beyond("lose: the year", RICH, 0, 1, BAD, (g, v) -> g.lose(v, 0));
        REFUSED.beyond("lose: the tile", RICH, 0, 15, BAD, (g, v) -> g.lose(0, v));
    }

    private static void boxNumbers() {
        REFUSED.beyond("box: the year", RICH, 0, 1, BAD, (g, v) -> g.box(v, 0, 0, 3, 3));
        REFUSED.beyond("box: x0", RICH, 0, 60, BAD, (g, v) -> g.box(0, v, 0, 60, 3));
        REFUSED.beyond("box: y0", RICH, 0, 60, BAD, (g, v) -> g.box(0, 0, v, 3, 60));
        REFUSED.beyond("box: x1", RICH, 2, 63, BAD, (g, v) -> g.box(0, 2, 0, v, 3));
        REFUSED.beyond("box: y1", RICH, 2, 63, BAD, (g, v) -> g.box(0, 0, 2, 3, v));
        REFUSED.beyond("box: x0 up to 63", RICH, 0, 63, BAD, (g, v) -> g.box(0, v, 0, 63, 3));
        REFUSED.beyond("box: y0 up to 63", RICH, 0, 63, BAD, (g, v) -> g.box(0, 0, v, 3, 63));
        REFUSED.beyond("box: x1 from 0 on", RICH, 0, 63, BAD, (g, v) -> g.box(0, 0, 0, v, 3));
        REFUSED.beyond("box: y1 from 0 on", RICH, 0, 63, BAD, (g, v) -> g.box(0, 0, 0, 3, v));
        REFUSED.is("box: both x below", RICH, BAD, g -> g.box(0, -2, 0, -1, 3));
        REFUSED.is("box: both x above", RICH, BAD, g -> g.box(0, 64, 0, 65, 3));
        REFUSED.is("box: both y below", RICH, BAD, g -> g.box(0, 0, -2, 3, -1));
        REFUSED.is("box: both y above", RICH, BAD, g -> g.box(0, 0, 64, 3, 65));
    }

    private static void shiftNumbers() {
        REFUSED.beyond("shift: the year", RICH, 0, 1, -10001, (g, v) -> g.shift(v, 1, 77));
        REFUSED.beyond("shift: the strip", RICH, 0, 3, -10001, (g, v) -> g.shift(0, v, 77));
        REFUSED.beyond("shift: by", RICH, -1000, 1000, -10001, (g, v) -> g.shift(0, 1, v));
    }

    private static void fitNumbers() {
        REFUSED.beyond("fit: the year", RICH, 0, 1, BAD, (g, v) -> g.fit(v));
        REFUSED.beyond("leftOver: the year", RICH, 0, 1, BAD, (g, v) -> g.leftOver(v));
    }

    private static void handNumbers() {
        REFUSED.beyond("hand: the year", RICH, 0, 1, BAD, (g, v) -> g.hand(v, 3, 1));
        REFUSED.beyond("hand: the point, year 0", RICH, 0, 9, BAD, (g, v) -> g.hand(0, v, 1));
        REFUSED.beyond("hand: the point, year 1", RICH, 0, 4, BAD, (g, v) -> g.hand(1, v, 1));
        REFUSED.beyond("hand: as", RICH, 0, 2, BAD, (g, v) -> g.hand(0, 9, v));
    }

    private static void handOfNoneAndOfAll() {
        for (int as = 0; as <= 2; as++) {
            int told = as;
            REFUSED.is("hand " + as + " of no points", NEW, BAD, g -> g.hand(0, 0, told));
            REFUSED.beyond("hand " + as + " of 100 points", FULL, 0, 99, BAD, (g, v) -> g.hand(0, v, told));
        }
    }

    private static void growNumbers() {
        REFUSED.beyond("grow: the year", RICH, 0, 1, BAD, (g, v) -> g.grow(v, 50, 1, 20));
        REFUSED.beyond("grow: a", RICH, 0, 100, BAD, (g, v) -> g.grow(0, v, 1, 20));
        REFUSED.beyond("grow: b", RICH, 1, 100, BAD, (g, v) -> g.grow(0, 50, v, 20));
        REFUSED.beyond("grow: r", RICH, 1, 20, BAD, (g, v) -> g.grow(0, 50, 1, v));
    }

    private static void roofsNumbers() {
        REFUSED.beyond("roofs: the year", RICH, 0, 1, BAD, (g, v) -> g.roofs(v, 50, 3));
        REFUSED.beyond("roofs: t", RICH, 0, 50, BAD, (g, v) -> g.roofs(0, v, 3));
        REFUSED.beyond("roofs: m", RICH, 3, 40, BAD, (g, v) -> g.roofs(0, 50, v));
    }

    private static void countNumbers() {
        REFUSED.beyond("count: the year", RICH, 0, 1, BAD, (g, v) -> g.count(v, 11));
        REFUSED.beyond("count: what", RICH, 0, 13, BAD, (g, v) -> g.count(0, v));
    }

    private static void gridNumbers() {
        REFUSED.beyond("grid: the year", RICH, 0, 1, -10001, (g, v) -> g.grid(v, 3, 3));
        REFUSED.beyond("grid: i", RICH, 0, 15, -10001, (g, v) -> g.grid(0, v, 3));
        REFUSED.beyond("grid: j", RICH, 0, 15, -10001, (g, v) -> g.grid(0, 3, v));
    }

    // Year 0 has no thirds, so that of it 0 is the answer too.
    private static void volumeNumbers() {
        REFUSED.beyond("volume: the level", RICH, -10000, 10000, 0, (g, v) -> g.volume(1, v));
        for (int year : new int[] {-1, 2, Integer.MIN_VALUE, Integer.MAX_VALUE}) {
            REFUSED.is("volume: the year " + year, RICH, 0, g -> g.volume(year, 5));
        }
    }

    private static void thirdsNumbers() {
        REFUSED.beyond("thirds: the year", RICH, 0, 1, BAD, (g, v) -> g.thirds(v));
    }

    private static void linesNumbers() {
        for (boolean closed : new boolean[] {false, true}) {
            REFUSED.beyond("lines: the year", RICH, 0, 1, BAD, (g, v) -> g.lines(v, 30, closed));
            REFUSED.beyond("lines: the level", RICH, -10000, 10000, BAD, (g, v) -> g.lines(1, v, closed));
        }
    }

    private static void changedNumbers() {
        for (int what = 0; what <= 3; what++) {
            int asked = what;
            REFUSED.beyond("changed: t of " + what, RICH, 0, 1000, -1000001, (g, v) -> g.changed(v, asked));
        }
        REFUSED.beyond("changed: what", RICH, 0, 3, -1000001, (g, v) -> g.changed(5, v));
    }

    private static void typeNumbers() {
        REFUSED.beyond("type: n", RICH, 1, 8, BAD, (g, v) -> g.type(0x4646464646464646L, v));
        for (int n = 1; n <= 8; n++) {
            int taken = n;
            REFUSED.is("type: the least w, n " + n, RICH, BAD, g -> g.type(Long.MIN_VALUE, taken));
            REFUSED.is("type: the most w, n " + n, RICH, BAD, g -> g.type(Long.MAX_VALUE, taken));
        }
    }

    private static void typeBytes() {
        for (int n = 1; n <= 8; n++) {
            for (int place = 0; place < n; place++) {
                int taken = n;
                long blank = 0x4141414141414141L & ~(255L << 8 * place);
                int at = 8 * place;
                DUE.is("type: byte 32", RICH.make().type(blank | 32L << at, n), 13 + n);
                DUE.is("type: byte 126", RICH.make().type(blank | 126L << at, n), 13 + n);
                for (long value : new long[] {0, 31, 127, 128, 255}) {
                    REFUSED.is("type: byte " + value + ", place " + place + " of " + n, RICH, BAD,
                        g -> g.type(blank | value << at, taken));
                }
            }
        }
    }

    // Asked of bytes that no job can begin with, as another year would answer their fault.
    private static void jobNumbers() {
        REFUSED.beyond("job: the year", RICH, 0, 1, BAD, (g, v) -> g.job(v));
        REFUSED.beyond("job: the year, with no bytes", NEW, 0, 1, BAD, (g, v) -> g.job(v));
    }
}
