/** Promises 17 to 21, edge by edge: the ends of the grid, a grid of gaps alone, levels at a height, t at its ends. */
final class GridEdgesTest {
    private static final Due DUE = new Due("GridEdgesTest");
    private static final int GAP = 100000;

    public static void main(String[] args) {
        squaresAtTheirEdges();
        gridOfGroundAlone();
        gridOfTheLeast();
        gridOfZeroIsNoGap();
        gridOfGaps();
        gridBehindALoss();
        thirdsOfFields();
        thirdsAtTheEdges();
        thirdsNeedFour();
        volumeOfGaps();
        volumeAtLevels();
        volumeAtItsEnds();
        volumeOfEachCorner();
        linesOfGaps();
        linesAtAHeight();
        linesAtTheirEnds();
        linesOfALevelField();
        linesClosedOnlyWithin();
        linesOfEachCorner();
        linesAskedAgain();
        linesOpenAheadOfClosed();
        linesAtTheLastRowAndColumn();
        linesThroughEachEdge();
        linesThatGoUpAgain();
        changedOfGaps();
        changedOfOneYear();
        changedByT();
        changedByNothing();
        changedByAThousand();
        changedAtItsMost();
        yearsApart();
        DUE.end();
    }

    /** Ground by hand at squares (i, j) of a height: i, j, height each. */
    private static RayGround ground(int... squares) {
        RayGround g = new RayGround();
        put(g, 0, squares);
        return g;
    }

    private static void put(RayGround g, int year, int... squares) {
        int first = g.count(year, 11);
        for (int k = 0; k < squares.length; k += 3) {
            Due.put(g, year, 4 * squares[k] + 2, 4 * squares[k + 1] + 1, squares[k + 2], 0);
            g.hand(year, first + k / 3, 1);
        }
    }

    /** Four squares that are neighbours, the first of them (i, j). */
    private static RayGround quad(int i, int j, int first, int right, int below, int across) {
        return ground(i, j, first, i + 1, j, right, i, j + 1, below, i + 1, j + 1, across);
    }

    private static void squaresAtTheirEdges() {
        int[] edges = {0, 3, 4, 7, 8, 31, 32, 59, 60, 63};
        for (int x : edges) {
            for (int y : edges) {
                RayGround g = new RayGround();
                Due.put(g, 1, x, y, 9, 0);
                g.hand(1, 0, 1);
                DUE.is("its square", g.grid(1, x / 4, y / 4), 9);
                DUE.is("one square in all", g.count(1, 13), 1);
                DUE.is("the other year's", g.grid(0, x / 4, y / 4), GAP);
                if (x / 4 != y / 4) {
                    DUE.is("not turned", g.grid(1, y / 4, x / 4), GAP);
                }
            }
        }
    }

    private static void gridOfGroundAlone() {
        RayGround g = Scene.rich();
        DUE.is("a seed", g.grid(0, 0, 0), 0);
        DUE.is("ground by hand", g.grid(0, 2, 0), 63);
        DUE.is("high by hand", g.grid(0, 2, 2), GAP);
        DUE.is("a roof", g.grid(0, 0, 1), GAP);
        DUE.is("high", g.grid(0, 3, 3), GAP);
        DUE.is("open", g.grid(0, 15, 0), GAP);
        DUE.is("two squares", g.count(0, 13), 2);
        g.hand(0, 0, 2);
        DUE.is("the other one there", g.grid(0, 0, 0), 4);
        g.hand(0, 1, 0);
        DUE.is("none there any more", g.grid(0, 0, 0), GAP);
    }

    private static void gridOfTheLeast() {
        RayGround g = ground(5, 6, 10);
        put(g, 0, 5, 6, 11, 5, 6, 9, 5, 6, 9, 5, 6, 3000);
        DUE.is("the least", g.grid(0, 5, 6), 9);
        Due.put(g, 0, 20, 24, 900, 2);
        g.hand(0, 5, 1);
        g.shift(0, 2, -892);
        DUE.is("the least by height", g.grid(0, 5, 6), 8);
        g.shift(0, 2, -891);
        DUE.is("of like heights", g.grid(0, 5, 6), 9);
    }

    private static void gridOfZeroIsNoGap() {
        RayGround g = quad(7, 7, 0, 0, 0, 0);
        DUE.is("a height of 0", g.grid(0, 7, 7), 0);
        DUE.is("heights of 0: squares", g.count(0, 13), 4);
        DUE.is("heights of 0: thirds", g.thirds(0), 2);
    }

    private static void gridOfGaps() {
        RayGround open = Scene.full();
        RayGround high = Scene.high(40);
        high.hand(0, 40, 2);
        for (int j = 0; j < 16; j++) {
            for (int i = 0; i < 16; i++) {
                DUE.is("gaps of open ones", open.grid(0, i, j), GAP);
                DUE.is("gaps of no points", open.grid(1, i, j), GAP);
                DUE.is("gaps of high ones", high.grid(0, i, j), GAP);
            }
        }
        DUE.is("gaps: squares", high.count(0, 13), 0);
    }

    private static void gridBehindALoss() {
        RayGround g = ground(3, 3, 1, 4, 3, 2, 3, 4, 3, 4, 4, 4);
        DUE.is("four tiles meet there", g.thirds(0), 2);
        g.lose(0, 5);
        DUE.is("lost: its square", g.grid(0, 4, 4), GAP);
        DUE.is("lost: the one beside it", g.grid(0, 3, 4), 3);
        DUE.is("lost: no thirds", g.thirds(0), 0);
        DUE.is("lost: no volume", g.volume(0, -10), 0);
        DUE.is("lost: no lines", g.lines(0, 2, false), 0);
    }

    private static RayGround field(int w, int h, int z) {
        RayGround g = new RayGround();
        Scene.field(g, 0, w, h, z);
        return g;
    }

    private static void thirdsOfFields() {
        int[][] fields = {{1, 1}, {2, 1}, {1, 2}, {2, 2}, {3, 2}, {2, 3}, {16, 1}, {1, 16}, {16, 2}, {2, 16}, {10, 10},
            {16, 6}, {6, 16}};
        for (int[] f : fields) {
            RayGround g = field(f[0], f[1], 5);
            DUE.is("a field: squares", g.count(0, 13), f[0] * f[1]);
            DUE.is("a field: thirds", g.thirds(0), 2 * (f[0] - 1) * (f[1] - 1));
            DUE.is("a field: volume", g.volume(0, 4), 48 * (f[0] - 1) * (f[1] - 1));
            DUE.is("a field: no lines", g.lines(0, 5, false), 0);
        }
    }

    private static void thirdsAtTheEdges() {
        for (int i = 0; i < 15; i += 14) {
            for (int j = 0; j < 15; j += 14) {
                DUE.is("a corner of the grid", quad(i, j, 1, 2, 3, 4).thirds(0), 2);
            }
        }
        DUE.is("not round by x", ground(15, 5, 1, 0, 5, 1, 15, 6, 1, 0, 6, 1).thirds(0), 0);
        DUE.is("not into the next row", ground(15, 5, 1, 0, 6, 1, 15, 6, 1, 0, 7, 1).thirds(0), 0);
        DUE.is("not round by y", ground(5, 15, 1, 6, 15, 1, 5, 0, 1, 6, 0, 1).thirds(0), 0);
    }

    private static void thirdsNeedFour() {
        for (int gap = 0; gap < 4; gap++) {
            RayGround g = quad(8, 8, 1, 2, 3, 4);
            g.hand(0, gap, 0);
            DUE.is("one of four is a gap", g.thirds(0), 0);
            DUE.is("one of four is a gap: volume", g.volume(0, 0), 0);
            DUE.is("one of four is a gap: lines", g.lines(0, 3, false), 0);
            g.hand(0, gap, 1);
            DUE.is("none of four is a gap", g.thirds(0), 2);
        }
        DUE.is("four in a row", ground(4, 4, 1, 5, 4, 1, 6, 4, 1, 7, 4, 1).thirds(0), 0);
        DUE.is("four of a larger square", ground(4, 4, 1, 6, 4, 1, 4, 6, 1, 6, 6, 1).thirds(0), 0);
    }

    private static void volumeOfGaps() {
        RayGround g = new RayGround();
        for (int level : new int[] {-10000, -1, 0, 1, 10000}) {
            DUE.is("volume of gaps", g.volume(0, level), 0);
            DUE.is("volume of no thirds", ground(4, 4, 50).volume(0, level), 0);
        }
    }

    private static void volumeAtLevels() {
        RayGround g = quad(3, 4, 10, 20, 40, 80);
        // 10 + 20 + 80 and 10 + 40 + 80
        int both = 110 + 130;
        for (int level : new int[] {-10000, -9999, -1, 0, 1, 39, 40, 41, 79, 80, 81, 9999, 10000}) {
            DUE.is("volume above " + level, g.volume(0, level), 8L * (both - 6 * level));
        }
        DUE.is("volume above -10001", g.volume(0, -10001), 0);
        DUE.is("volume above 10001", g.volume(0, 10001), 0);
    }

    private static void volumeAtItsEnds() {
        RayGround g = field(10, 10, 3000);
        g.shift(0, 0, 1000);
        DUE.is("the most", g.volume(0, -10000), 8L * 486 * 14000);
        DUE.is("the least of these", g.volume(0, 10000), 8L * 486 * -6000);
        RayGround low = field(10, 10, -3000);
        low.shift(0, 0, -1000);
        DUE.is("the least", low.volume(0, 10000), 8L * 486 * -14000);
        DUE.is("at its height", low.volume(0, -4000), 0);
    }

    // Corners on the diagonal belong to two thirds, the others to one.
    private static void volumeOfEachCorner() {
        DUE.is("the first corner", quad(0, 0, 1, 0, 0, 0).volume(0, 0), 16);
        DUE.is("the corner (i + 1, j)", quad(0, 0, 0, 1, 0, 0).volume(0, 0), 8);
        DUE.is("the corner (i, j + 1)", quad(0, 0, 0, 0, 1, 0).volume(0, 0), 8);
        DUE.is("the corner across", quad(0, 0, 0, 0, 0, 1).volume(0, 0), 16);
        DUE.is("below the level", quad(0, 0, -5, 0, 0, 0).volume(0, 0), -80);
    }

    private static void linesAre(String what, RayGround g, int level, int all, int closed) {
        DUE.is(what + ", level " + level, g.lines(0, level, false), all);
        DUE.is(what + ", closed, level " + level, g.lines(0, level, true), closed);
    }

    private static void linesOfGaps() {
        for (int level : new int[] {-10000, 0, 10000}) {
            linesAre("lines of gaps", new RayGround(), level, 0, 0);
            linesAre("lines of one square", ground(4, 4, 50), level, 0, 0);
        }
    }

    private static void linesAtAHeight() {
        RayGround g = quad(5, 5, 10, 10, 10, 20);
        linesAre("all are above", g, 9, 0, 0);
        linesAre("the level of three", g, 10, 0, 0);
        linesAre("one above the level of three", g, 11, 1, 0);
        linesAre("one below the level of one", g, 19, 1, 0);
        linesAre("the level of one", g, 20, 1, 0);
        linesAre("none is above", g, 21, 0, 0);
    }

    private static void linesAtTheirEnds() {
        RayGround g = quad(5, 5, 3000, -3000, 3000, -3000);
        g.shift(0, 0, 1000);
        for (int level : new int[] {-10000, -9999, -3000, -2000, 4001, 9999, 10000}) {
            linesAre("no corner is on the other side", g, level, 0, 0);
        }
        linesAre("just above the lowest", g, -1999, 1, 0);
        linesAre("at the highest", g, 4000, 1, 0);
        DUE.is("level -10001", g.lines(0, -10001, false), -1);
        DUE.is("level 10001", g.lines(0, 10001, true), -1);
    }

    private static void linesOfALevelField() {
        RayGround g = field(10, 10, 0);
        linesAre("a level field", g, -1, 0, 0);
        linesAre("a level field", g, 0, 0, 0);
        linesAre("a level field", g, 1, 0, 0);
    }

    /** A field of three by three squares from (i, j) on, the middle one 9 high, the others 1. */
    private static RayGround top(int i, int j) {
        RayGround g = new RayGround();
        for (int k = 0; k < 9; k++) {
            put(g, 0, i + k % 3, j + k / 3, k == 4 ? 9 : 1);
        }
        return g;
    }

    private static void linesClosedOnlyWithin() {
        linesAre("a top at the first corner of the grid", top(0, 0), 5, 1, 1);
        linesAre("a top at the last corner of the grid", top(13, 13), 5, 1, 1);
        for (int gap = 0; gap < 9; gap++) {
            RayGround g = top(6, 6);
            g.hand(0, gap, 0);
            // Without (8, 6) or (6, 8), or one of the sides, the line ends there; without its top there is none.
            linesAre("a top, gap " + gap, g, 5, gap == 4 ? 0 : 1, 0);
        }
    }

    private static void linesOfEachCorner() {
        linesAre("the first corner", quad(0, 0, 9, 1, 1, 1), 5, 1, 0);
        linesAre("the corner (i + 1, j)", quad(0, 0, 1, 9, 1, 1), 5, 1, 0);
        linesAre("the corner (i, j + 1)", quad(0, 0, 1, 1, 9, 1), 5, 1, 0);
        linesAre("the corner across", quad(0, 0, 1, 1, 1, 9), 5, 1, 0);
        linesAre("both on the diagonal", quad(0, 0, 9, 1, 1, 9), 5, 2, 0);
        linesAre("both off the diagonal", quad(0, 0, 1, 9, 9, 1), 5, 2, 0);
    }

    private static void linesAskedAgain() {
        for (int place = 0; place < 15; place += 14) {
            RayGround g = quad(place, place, 1, 9, 1, 1);
            for (int times = 0; times < 3; times++) {
                linesAre("asked again", g, 5, 1, 0);
            }
        }
    }

    // One that is open, at the first third of all, and one that is closed behind it; then the other way round.
    private static void linesOpenAheadOfClosed() {
        RayGround g = top(4, 0);
        put(g, 0, 0, 0, 1, 1, 0, 9, 0, 1, 1, 1, 1, 1);
        linesAre("open ahead of closed", g, 5, 2, 1);
        RayGround h = top(4, 0);
        put(h, 0, 9, 0, 1, 10, 0, 9, 9, 1, 1, 10, 1, 1);
        linesAre("closed ahead of open", h, 5, 2, 1);
    }

    // They end there: what lies at the other side of the grid is no neighbour.
    private static void linesAtTheLastRowAndColumn() {
        RayGround right = quad(14, 4, 1, 9, 1, 9);
        put(right, 0, 0, 4, 9, 0, 5, 9, 0, 6, 1, 1, 5, 1, 1, 6, 1);
        linesAre("at the last column", right, 5, 2, 0);
        linesAre("at the last column, across", quad(14, 4, 1, 1, 1, 9), 5, 1, 0);
        linesAre("at the last row", quad(4, 14, 1, 1, 1, 9), 5, 1, 0);
        linesAre("at the last corner", quad(14, 14, 1, 1, 1, 9), 5, 1, 0);
        linesAre("at the last corner, through the edges", quad(14, 14, 9, 1, 9, 1), 5, 1, 0);
    }

    // Rows and columns of two heights: a line crosses all thirds between them, from end to end.
    private static void linesThroughEachEdge() {
        RayGround rows = new RayGround();
        RayGround columns = new RayGround();
        for (int k = 0; k < 16; k++) {
            put(rows, 0, k % 8, k / 8, k < 8 ? 9 : 1);
            put(columns, 0, k / 8, k % 8, k < 8 ? 9 : 1);
        }
        linesAre("between two rows", rows, 5, 1, 0);
        linesAre("between two columns", columns, 5, 1, 0);
        rows.hand(0, 3, 2);
        columns.hand(0, 3, 2);
        linesAre("between two rows, cut", rows, 5, 2, 0);
        linesAre("between two columns, cut", columns, 5, 2, 0);
    }

    // Down from the first third of all, below three tops, and up again to a third whose way on is a gap; and turned.
    private static void linesThatGoUpAgain() {
        String[] rows = {"11.11", "19991", "11111"};
        for (int turned = 0; turned < 2; turned++) {
            for (int across = 0; across < 2; across++) {
                RayGround g = new RayGround();
                for (int k = 0; k < 15; k++) {
                    int i = turned == 1 ? 4 - k % 5 : k % 5;
                    int j = turned == 1 ? 2 - k / 5 : k / 5;
                    char c = rows[k / 5].charAt(k % 5);
                    if (c != '.') {
                        put(g, 0, across == 1 ? j : i, across == 1 ? i : j, c - '0');
                    }
                }
                linesAre("up again", g, 5, 1, 0);
            }
        }
    }

    private static void changedOfGaps() {
        RayGround g = new RayGround();
        for (int t = 0; t <= 1000; t += 500) {
            for (int what = 0; what <= 3; what++) {
                DUE.is("changed of gaps", g.changed(t, what), 0);
            }
        }
    }

    private static void changedOfOneYear() {
        RayGround g = ground(1, 1, 50, 2, 2, 50);
        put(g, 1, 3, 3, 70, 2, 1, 70);
        for (int what = 0; what <= 3; what++) {
            DUE.is("changed, gaps in one of both", g.changed(0, what), 0);
        }
        put(g, 1, 2, 2, 70);
        DUE.is("no gap in both", g.changed(0, 0), 1);
        DUE.is("it rose", g.changed(0, 1), 1);
        DUE.is("it did not fall", g.changed(0, 2), 0);
        DUE.is("by so much", g.changed(0, 3), 20);
    }

    private static void changedByT() {
        for (int t = 1; t <= 1000; t += 37) {
            RayGround g = ground(0, 0, 0, 15, 15, 0, 15, 0, 0, 0, 15, 0, 7, 7, 0);
            put(g, 1, 0, 0, t, 15, 15, -t, 15, 0, t - 1, 0, 15, 1 - t, 7, 7, t + 1);
            DUE.is("in both", g.changed(t, 0), 5);
            DUE.is("rose by t or more", g.changed(t, 1), 2);
            DUE.is("fell by t or more", g.changed(t, 2), 1);
            DUE.is("the sum", g.changed(t, 3), t + 1);
        }
    }

    private static void changedByNothing() {
        RayGround g = ground(4, 5, 6);
        put(g, 1, 4, 5, 6);
        DUE.is("like heights: in both", g.changed(0, 0), 1);
        DUE.is("like heights: none rose", g.changed(0, 1), 0);
        DUE.is("like heights: none fell", g.changed(0, 2), 0);
        DUE.is("like heights: the sum", g.changed(0, 3), 0);
        g.shift(1, 0, 1);
        DUE.is("1 above 0 rose", g.changed(0, 1), 1);
        DUE.is("1 above 0 did not fall", g.changed(0, 2), 0);
        g.shift(1, 0, -1);
        DUE.is("1 below 0 did not rise", g.changed(0, 1), 0);
        DUE.is("1 below 0 fell", g.changed(0, 2), 1);
    }

    private static void changedByAThousand() {
        for (int by = 999; by <= 1001; by++) {
            RayGround g = ground(4, 5, by, 6, 6, 0);
            put(g, 1, 4, 5, 0, 6, 6, by);
            DUE.is("rose by 1000", g.changed(1000, 1), by >= 1000 ? 1 : 0);
            DUE.is("fell by 1000", g.changed(1000, 2), by >= 1000 ? 1 : 0);
            DUE.is("t 1001", g.changed(1001, 1), -1000001);
            DUE.is("t -1", g.changed(-1, 2), -1000001);
        }
    }

    // 100 squares, 8000 apart: the sums stay clear of what is answered to a number that is not as told.
    private static void changedAtItsMost() {
        for (int sign = -1; sign <= 1; sign += 2) {
            RayGround g = farApart(sign);
            DUE.is("100 squares in both", g.changed(1000, 0), 100);
            DUE.is("all or none rose", g.changed(1000, 1), sign > 0 ? 100 : 0);
            DUE.is("all or none fell", g.changed(1000, 2), sign > 0 ? 0 : 100);
            DUE.is("the greatest sum", g.changed(1000, 3), sign * 800000);
            DUE.is("the sum, whatever t", g.changed(0, 3), sign * 800000);
        }
    }

    /** Year 0 has 100 squares of height -4000, year 1 of 4000; with sign -1 it is the other way round. */
    private static RayGround farApart(int sign) {
        RayGround g = new RayGround();
        g.sheet(0, 1, 40);
        g.sheet(1, 1, 40);
        for (int k = 0; k < 10; k++) {
            g.item(0, 1, 4 * k, 4 * k);
            g.item(0, 1, 4 * k + 2, sign * -3000);
        }
        for (int row = 0; row < 10; row++) {
            for (int k = 0; k < 10; k++) {
                g.item(0, 1, 4 * k + 1, 4 * row);
            }
            g.copy(0, 0, 1, 0, 40);
            for (int k = 0; k < 10; k++) {
                g.item(1, 1, 4 * k + 2, sign * 3000);
            }
            g.points(0, 0, 1, 0, 10);
            g.points(1, 1, 1, 0, 10);
        }
        for (int year = 0; year < 2; year++) {
            DUE.is("100 squares", g.grow(year, 0, 1, 4), 100);
            g.shift(year, 0, sign * (2000 * year - 1000));
        }
        return g;
    }

    private static void yearsApart() {
        RayGround g = new RayGround();
        put(g, 1, 3, 3, 1, 4, 3, 2, 3, 4, 3, 4, 4, 4);
        DUE.is("year 0: thirds", g.thirds(0), 0);
        DUE.is("year 1: thirds", g.thirds(1), 2);
        DUE.is("year 0: volume", g.volume(0, 0), 0);
        DUE.is("year 1: volume", g.volume(1, 0), 8 * (1 + 2 + 4 + 1 + 3 + 4));
        DUE.is("year 0: lines", g.lines(0, 3, false), 0);
        DUE.is("year 1: lines", g.lines(1, 3, false), 1);
        DUE.is("year 0: a gap", g.grid(0, 4, 3), GAP);
        DUE.is("year 1: no gap", g.grid(1, 4, 3), 2);
    }
}
