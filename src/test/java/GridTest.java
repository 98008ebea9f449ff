/** Promises 17 to 21: grid, volume, thirds, lines, changed. */
final class GridTest {
    private static final Due DUE = new Due("GridTest");

    public static void main(String[] args) {
        gridAnswers();
        gridRefuses();
        thirdsAnswer();
        volumeAnswers();
        linesOfOneQuad();
        linesAround();
        linesOfParts();
        linesRefuse();
        changedAnswers();
        changedRefuses();
        DUE.end();
    }

    /** Makes squares (i, j) to hold ground of a height: i, j, height each. */
    private static void ground(RayGround g, int year, int... squares) {
        int first = g.count(year, 11);
        for (int k = 0; k < squares.length; k += 3) {
            Due.put(g, year, 4 * squares[k] + 1, 4 * squares[k + 1] + 2, squares[k + 2], 0);
            g.hand(year, first + k / 3, 1);
        }
    }

    /** Ground in rows of squares from (i, j) on, a text of heights for each row, . for a gap. */
    private static RayGround field(int i, int j, String... rows) {
        RayGround g = new RayGround();
        for (int row = 0; row < rows.length; row++) {
            for (int column = 0; column < rows[row].length(); column++) {
                char c = rows[row].charAt(column);
                if (c != '.') {
                    ground(g, 0, i + column, j + row, c - '0');
                }
            }
        }
        return g;
    }

    private static void gridAnswers() {
        RayGround g = new RayGround();
        Due.put(g, 0, 4, 8, 9, 0, 7, 11, 5, 0, 5, 9, 7, 0, 6, 10, 1, 0, 3, 8, 2, 0, 4, 7, 3, 0);
        DUE.is("open ones make no grid", g.grid(0, 1, 2), 100000);
        g.hand(0, 0, 1);
        DUE.is("one", g.grid(0, 1, 2), 9);
        g.hand(0, 1, 1);
        g.hand(0, 2, 1);
        g.hand(0, 3, 2);
        DUE.is("the least", g.grid(0, 1, 2), 5);
        g.hand(0, 4, 1);
        g.hand(0, 5, 1);
        DUE.is("beside", g.grid(0, 0, 2), 2);
        DUE.is("above", g.grid(0, 1, 1), 3);
        DUE.is("not turned", g.grid(0, 2, 1), 100000);
        DUE.is("the other year", g.grid(1, 1, 2), 100000);
        g.shift(0, 0, -7);
        DUE.is("heights", g.grid(0, 1, 2), -2);
        ground(g, 0, 15, 15, 44);
        DUE.is("the last", g.grid(0, 15, 15), 37);
        g.lose(0, 15);
        DUE.is("lost", g.grid(0, 15, 15), 100000);
    }

    private static void gridRefuses() {
        RayGround g = new RayGround();
        int[][] bad = {{-1, 0, 0}, {2, 0, 0}, {0, -1, 0}, {0, 16, 0}, {0, 0, -1}, {0, 0, 16},
            {0, Integer.MAX_VALUE, 0}, {0, 0, Integer.MIN_VALUE}};
        for (int[] c : bad) {
            DUE.is("grid bad", g.grid(c[0], c[1], c[2]), -10001);
        }
    }

    private static void thirdsAnswer() {
        RayGround g = new RayGround();
        DUE.is("bad", g.thirds(-1), -1);
        DUE.is("bad", g.thirds(2), -1);
        DUE.is("none", g.thirds(0), 0);
        DUE.is("three corners", field(3, 3, "11", "1.").thirds(0), 0);
        DUE.is("three corners", field(3, 3, "11", ".1").thirds(0), 0);
        DUE.is("three corners", field(3, 3, "1.", "11").thirds(0), 0);
        DUE.is("three corners", field(3, 3, ".1", "11").thirds(0), 0);
        DUE.is("four corners", field(0, 0, "11", "11").thirds(0), 2);
        DUE.is("at the far end", field(14, 14, "11", "11").thirds(0), 2);
        DUE.is("not round the edge", field(15, 3, "1", "1").thirds(0), 0);
        DUE.is("a gap in the middle", field(5, 5, "1111", "1.11", "1111").thirds(0), 4);
        DUE.is("six", field(5, 5, "1111", "1111").thirds(0), 6);
        DUE.is("the other year", field(5, 5, "1111", "1111").thirds(1), 0);
        RayGround edge = field(15, 3, "1", "1");
        ground(edge, 0, 0, 4, 1, 0, 5, 1);
        DUE.is("not round the edge", edge.thirds(0), 0);
    }

    private static void volumeAnswers() {
        RayGround g = field(2, 3, "12", "49");
        // with (i + 1, j): 1 + 2 + 9, with (i, j + 1): 1 + 4 + 9
        DUE.is("above 0", g.volume(0, 0), 8 * (12 + 14));
        DUE.is("above 3", g.volume(0, 3), 8 * (12 - 9 + 14 - 9));
        DUE.is("what lies below is taken off", g.volume(0, 10), 8 * (26 - 60));
        DUE.is("far below", g.volume(0, -10000), 8 * (26 + 60000));
        DUE.is("far above", g.volume(0, 10000), 8 * (26 - 60000));
        DUE.is("bad", g.volume(0, 10001), 0);
        DUE.is("bad", g.volume(0, -10001), 0);
        DUE.is("bad", g.volume(-1, 0), 0);
        DUE.is("bad", g.volume(2, 0), 0);
        DUE.is("the other year", g.volume(1, -10000), 0);
        DUE.is("no thirds", field(0, 0, "999").volume(0, 0), 0);
        DUE.is("two quads", field(0, 0, "111", "111").volume(0, 0), 8 * 12);
    }

    private static void linesAre(String what, RayGround g, int level, int all, int closed) {
        DUE.is(what + ", all", g.lines(0, level, false), all);
        DUE.is(what + ", closed", g.lines(0, level, true), closed);
    }

    private static void linesOfOneQuad() {
        linesAre("a level quad", field(0, 0, "11", "11"), 0, 0, 0);
        linesAre("at its height", field(0, 0, "11", "11"), 1, 0, 0);
        linesAre("above it", field(0, 0, "11", "11"), 2, 0, 0);
        linesAre("one corner up", field(0, 0, "91", "11"), 5, 1, 0);
        linesAre("the level itself is above", field(0, 0, "91", "11"), 9, 1, 0);
        linesAre("beyond it is not", field(0, 0, "91", "11"), 10, 0, 0);
        linesAre("a corner off the diagonal", field(0, 0, "19", "11"), 5, 1, 0);
        linesAre("both corners off the diagonal", field(0, 0, "19", "91"), 5, 2, 0);
        linesAre("both corners of the diagonal", field(0, 0, "91", "19"), 5, 2, 0);
        linesAre("one side", field(0, 0, "99", "11"), 5, 1, 0);
        linesAre("the other side", field(0, 0, "91", "91"), 5, 1, 0);
        linesAre("three", field(0, 0, "99", "91"), 5, 1, 0);
        linesAre("no thirds", field(0, 0, "91", "1."), 5, 0, 0);
    }

    private static void linesAround() {
        linesAre("around a top", field(4, 4, "111", "191", "111"), 5, 1, 1);
        linesAre("around a hole", field(4, 4, "999", "919", "999"), 5, 1, 1);
        linesAre("around two tops", field(4, 4, "1111", "1991", "1111"), 5, 1, 1);
        linesAre("two tops joined by the diagonal", field(4, 4, "1111", "1911", "1191", "1111"), 5, 1, 1);
        linesAre("two tops not joined", field(4, 4, "1111", "1191", "1911", "1111"), 5, 2, 2);
        linesAre("a top at the side", field(4, 4, "111", "191"), 5, 1, 0);
        linesAre("a top at the edge of the grid", field(13, 13, "111", "111", "119"), 5, 1, 0);
        linesAre("a gap near the top", field(4, 4, ".11", "191", "111"), 5, 1, 0);
        linesAre("a gap that does not touch it", field(4, 4, "11..", "1111", "1191", "1111"), 5, 1, 1);
        linesAre("a line over a line", field(4, 4, "11111", "19991", "19191", "19991", "11111"), 5, 2, 2);
        linesAre("a level between", field(4, 4, "11111", "13331", "13931", "13331", "11111"), 5, 1, 1);
        linesAre("a level below", field(4, 4, "11111", "13331", "13931", "13331", "11111"), 2, 1, 1);
    }

    private static void linesOfParts() {
        // One that is closed, one that is open, far from one another.
        RayGround g = field(0, 0, "111..11", "191..19", "111..11");
        linesAre("two parts", g, 5, 2, 1);
        DUE.is("the other year", g.lines(1, 5, false), 0);
        // Thirds that meet in a corner alone are not together.
        linesAre("corner to corner", field(6, 6, "11.", "191", ".11"), 5, 2, 0);
        // A gap cuts a line in two.
        linesAre("cut", field(0, 3, "99999", "11.11", "11.11"), 5, 2, 0);
        // The far side of the grid is no neighbour of the near one.
        RayGround sides = field(14, 4, "11", "99");
        ground(sides, 0, 0, 5, 1, 1, 5, 1, 0, 6, 9, 1, 6, 9);
        linesAre("two sides", sides, 5, 2, 0);
        linesAre("straight", field(0, 3, "99999", "11111"), 5, 1, 0);
        linesAre("three lines", field(0, 3, "9191", "9191"), 5, 3, 0);
    }

    private static void linesRefuse() {
        RayGround g = field(4, 4, "111", "191", "111");
        DUE.is("bad year", g.lines(-1, 5, false), -1);
        DUE.is("bad year", g.lines(2, 5, true), -1);
        DUE.is("bad level", g.lines(0, 10001, false), -1);
        DUE.is("bad level", g.lines(0, -10001, true), -1);
        DUE.is("the highest level", g.lines(0, 10000, false), 0);
        DUE.is("the lowest level", g.lines(0, -10000, false), 0);
    }

    private static void changedAnswers() {
        RayGround g = new RayGround();
        ground(g, 0, 0, 0, 10, 1, 0, 10, 2, 0, 10, 3, 0, 10, 4, 0, 10, 5, 0, 10);
        ground(g, 1, 0, 0, 10, 1, 0, 11, 2, 0, 15, 3, 0, 9, 4, 0, 2, 6, 0, 99);
        DUE.is("in both", g.changed(0, 0), 5);
        DUE.is("in both, whatever t", g.changed(1000, 0), 5);
        DUE.is("rose by 0, above 0", g.changed(0, 1), 2);
        DUE.is("rose by 1", g.changed(1, 1), 2);
        DUE.is("rose by 2", g.changed(2, 1), 1);
        DUE.is("rose by 5", g.changed(5, 1), 1);
        DUE.is("rose by 6", g.changed(6, 1), 0);
        DUE.is("fell by 0, above 0", g.changed(0, 2), 2);
        DUE.is("fell by 1", g.changed(1, 2), 2);
        DUE.is("fell by 8", g.changed(8, 2), 1);
        DUE.is("fell by 9", g.changed(9, 2), 0);
        DUE.is("the sum", g.changed(0, 3), 1 + 5 - 1 - 8);
        DUE.is("the sum, whatever t", g.changed(1000, 3), 1 + 5 - 1 - 8);
        g.shift(1, 0, 1000);
        DUE.is("heights", g.changed(1000, 1), 3);
        DUE.is("heights", g.changed(0, 3), 4997);
    }

    private static void changedRefuses() {
        RayGround g = new RayGround();
        int[][] bad = {{-1, 0}, {1001, 0}, {0, -1}, {0, 4}, {Integer.MAX_VALUE, 0}, {0, Integer.MIN_VALUE}};
        for (int[] c : bad) {
            DUE.is("changed bad", g.changed(c[0], c[1]), -1000001);
        }
        DUE.is("nothing", g.changed(0, 3), 0);
    }
}
