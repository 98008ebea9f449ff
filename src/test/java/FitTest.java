/** Promises 11 and 12: fit, leftOver. */
final class FitTest {
    private static final Due DUE = new Due("FitTest");

    public static void main(String[] args) {
        fitRounds();
        fitChains();
        fitPutsOthersToZero();
        fitRefuses();
        fitKeepsBounds();
        leftOverAnswers();
        DUE.end();
    }

    /** Strip 0 has points of some heights, strip 1 one of a height, all in one square. */
    private static RayGround square(int z1, int... z0) {
        RayGround g = new RayGround();
        for (int z : z0) {
            Due.put(g, 0, 8, 8, z, 0);
        }
        Due.put(g, 0, 11, 11, z1, 1);
        return g;
    }

    private static void shiftIs(String what, RayGround g, int strip, int want) {
        int was = g.shift(0, strip, 0);
        DUE.is(what, was, want);
        g.shift(0, strip, was);
    }

    private static void fitRounds() {
        int[][] cases = {
            // the shift that is due, z of strip 1, z of strip 0
            {-3, 103, 100}, {7, 93, 100}, {0, 5, 5},
            {1, 0, 0, 1}, {0, 1, 0, 1}, {3, 0, 2, 3}, {-2, 0, -2, -3}, {-1, 2, 0, 1},
            {0, 0, 0, 0, 1}, {1, 0, 0, 1, 1}, {0, 0, 0, 0, -1}, {-1, 0, 0, -1, -1},
        };
        for (int[] c : cases) {
            int[] z0 = java.util.Arrays.copyOfRange(c, 2, c.length);
            RayGround g = square(c[1], z0);
            DUE.is("fit", g.fit(0), 1);
            shiftIs("strip 1", g, 1, c[0]);
            shiftIs("strip 0", g, 0, 0);
            DUE.is("fit again", g.fit(0), 1);
            shiftIs("the same again", g, 1, c[0]);
        }
    }

    private static void fitChains() {
        RayGround g = new RayGround();
        // 0 with 2, 2 with 1, 1 with 3, each in a square of its own.
        Due.put(g, 0, 0, 0, 10, 0, 3, 3, 15, 2, 4, 0, 100, 2, 7, 3, 90, 1, 60, 60, 0, 1, 63, 63, 30, 3);
        DUE.is("fit a chain", g.fit(0), 1);
        shiftIs("strip 2", g, 2, -5);
        shiftIs("strip 1", g, 1, 5);
        shiftIs("strip 3", g, 3, -25);
        DUE.is("all together", g.leftOver(0), 0);
        // A ring that does not close: 0 and 1 differ by 6, 1 and 2 by 0, 2 and 0 by 0.
        RayGround h = new RayGround();
        Due.put(h, 0, 0, 0, 0, 0, 0, 0, 6, 1, 8, 8, 50, 1, 8, 8, 50, 2, 16, 16, 9, 2, 16, 16, 9, 0);
        DUE.is("fit a ring", h.fit(0), 1);
        shiftIs("ring, strip 1", h, 1, -4);
        shiftIs("ring, strip 2", h, 2, -2);
        DUE.is("ring, left over", h.leftOver(0), 12);
        // More pairs weigh more: two of strip 0 at 0, one at 30.
        RayGround w = square(0, 0, 0, 30);
        w.fit(0);
        shiftIs("weighed", w, 1, 10);
    }

    private static void fitPutsOthersToZero() {
        RayGround g = square(4, 1);
        Due.put(g, 1, 0, 0, 0, 0);
        g.shift(0, 0, 70);
        g.shift(0, 1, 80);
        g.shift(0, 2, 90);
        g.shift(0, 3, -100);
        g.shift(1, 2, 60);
        DUE.is("fit", g.fit(0), 1);
        shiftIs("strip 0", g, 0, 0);
        shiftIs("strip 1", g, 1, -3);
        shiftIs("strip 2 has no points", g, 2, 0);
        shiftIs("strip 3 has no points", g, 3, 0);
        DUE.is("the other year's stays", g.shift(1, 2, 60), 60);
        DUE.is("strip 0 alone", g.fit(1), 1);
        DUE.is("the other year's is 0 now", g.shift(1, 2, 0), 0);
    }

    private static void fitRefuses() {
        RayGround g = new RayGround();
        DUE.is("bad", g.fit(-1), -1);
        DUE.is("bad", g.fit(2), -1);
        DUE.is("strip 0 has no points", g.fit(0), -2);
        Due.put(g, 0, 0, 0, 0, 1, 0, 0, 7, 2);
        g.shift(0, 0, 5);
        g.shift(0, 1, 6);
        DUE.is("strip 0 has no points, others have", g.fit(0), -2);
        shiftIs("nothing changes", g, 0, 5);
        shiftIs("nothing changes", g, 1, 6);
        Due.put(g, 0, 8, 8, 3, 0);
        DUE.is("strip 0 is alone in its square", g.fit(0), -2);
        Due.put(g, 0, 3, 4, 3, 0, 4, 3, 3, 0);
        DUE.is("neighbouring squares are others", g.fit(0), -2);
        shiftIs("nothing changes", g, 1, 6);
        Due.put(g, 0, 3, 3, 3, 0);
        DUE.is("now they hang together", g.fit(0), 1);
        shiftIs("strip 1", g, 1, 3);
        shiftIs("strip 2", g, 2, -4);
        Due.put(g, 0, 40, 40, 3, 3);
        DUE.is("one that hangs with none", g.fit(0), -2);
        shiftIs("nothing changes", g, 1, 3);
        g.lose(0, 10);
        DUE.is("it is lost", g.fit(0), 1);
    }

    // What may not be beyond the bounds are the shifts, that is, the rounded ones.
    private static void fitKeepsBounds() {
        DUE.is("1000", square(0, 1000).fit(0), 1);
        DUE.is("1001", square(-1, 1000).fit(0), -2);
        DUE.is("-1000", square(1000, 0).fit(0), 1);
        DUE.is("-1001", square(1000, -1).fit(0), -2);
        DUE.is("1000 and a half", square(0, 1000, 1001).fit(0), -2);
        DUE.is("-1000 and a half less", square(0, -1000, -1001).fit(0), 1);
        DUE.is("-1000 and two thirds less", square(0, -1000, -1001, -1001).fit(0), -2);
        DUE.is("6000", square(-3000, 3000).fit(0), -2);
        RayGround g = square(-1, 1000);
        g.shift(0, 1, 12);
        g.fit(0);
        shiftIs("nothing changes", g, 1, 12);
        // Strip 1 is well within, strip 2 beyond: neither changes.
        Due.put(g, 0, 30, 30, 0, 0, 30, 30, 1, 1);
        Due.put(g, 0, 30, 30, -3000, 2);
        DUE.is("one of two beyond", g.fit(0), -2);
        shiftIs("nothing changes", g, 1, 12);
    }

    private static void leftOverAnswers() {
        RayGround g = new RayGround();
        DUE.is("bad", g.leftOver(-1), -1);
        DUE.is("bad", g.leftOver(2), -1);
        Due.put(g, 0, 0, 0, 1, 0, 1, 1, 4, 1, 2, 2, 10, 1, 3, 3, 20, 2);
        DUE.is("five pairs", g.leftOver(0), 9 + 81 + 361 + 256 + 100);
        g.shift(0, 2, -10);
        DUE.is("with a shift", g.leftOver(0), 9 + 81 + 81 + 36);
        Due.put(g, 0, 4, 0, 999, 3, 0, 4, -999, 3);
        DUE.is("other squares", g.leftOver(0), 9 + 81 + 81 + 36);
        DUE.is("the other year", g.leftOver(1), 0);
        RayGround h = new RayGround();
        Due.putRow(h, 0, 0, 0, 3000, 1);
        int[] low = new int[40];
        for (int k = 0; k < 10; k++) {
            low[4 * k + 2] = -3000;
            low[4 * k + 3] = 1;
        }
        for (int k = 0; k < 9; k++) {
            Due.put(h, 0, low);
        }
        h.shift(0, 0, 1000);
        h.shift(0, 1, -1000);
        DUE.is("beyond an int", h.leftOver(0), 90L * 8000 * 8000);
    }
}
