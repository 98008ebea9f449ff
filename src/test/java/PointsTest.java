/** Promises 6 to 10: points, told, lose, box, shift. */
final class PointsTest {
    private static final Due DUE = new Due("PointsTest");

    public static void main(String[] args) {
        pointsAnswer();
        pointsRefuseInOrder();
        pointsRefuseWhatIsNotAsTold();
        pointsFill();
        toldAnswers();
        toldRefuses();
        loseAnswers();
        loseRefuses();
        tilesOfPoints();
        boxAnswers();
        boxRefuses();
        shiftAnswers();
        shiftRefuses();
        DUE.end();
    }

    private static void pointsAnswer() {
        RayGround g = new RayGround();
        g.sheet(0, 0, 13);
        int[] items = {99, 1, 2, 3, 0, 4, 5, 6, 1, 7, 8, 9, 2};
        for (int i = 0; i < items.length; i++) {
            g.item(0, 0, i, items[i]);
        }
        DUE.is("three from 1 on", g.points(0, 0, 0, 1, 3), 3);
        DUE.is("one more", g.points(0, 0, 0, 5, 1), 4);
        DUE.is("the other year has its own", g.points(1, 0, 0, 9, 1), 1);
        int[][] want = {{1, 2, 3, 0}, {4, 5, 6, 1}, {7, 8, 9, 2}, {4, 5, 6, 1}};
        for (int p = 0; p < want.length; p++) {
            for (int what = 0; what < 4; what++) {
                DUE.is("told " + p + " " + what, g.told(0, p, what), want[p][what]);
            }
            DUE.is("open at first", g.told(0, p, 4), 0);
            DUE.is("not by hand at first", g.told(0, p, 5), 0);
            DUE.is("no round at first", g.told(0, p, 6), -1);
        }
        // What comes later does not change what was told before it.
        g.grow(0, 100, 1, 20);
        g.hand(0, 1, 2);
        DUE.is("one more", g.points(0, 0, 0, 1, 1), 5);
        DUE.is("open", g.told(0, 4, 4), 0);
        DUE.is("ground stays", g.told(0, 0, 4), 1);
        DUE.is("by hand stays", g.told(0, 1, 5), 2);
    }

    private static void pointsRefuseInOrder() {
        RayGround g = new RayGround();
        int[][] bad = {{-1, 0, 0, 0, 1}, {2, 0, 0, 0, 1}, {0, -1, 0, 0, 1}, {0, 4, 0, 0, 1}, {0, 0, -1, 0, 1},
            {0, 0, 3, 0, 1}, {0, 0, 0, 0, 0}, {0, 0, 0, 0, 11}, {0, 0, 0, 0, -1}, {0, 0, 0, 0, Integer.MAX_VALUE}};
        for (int[] c : bad) {
            DUE.is("points bad", g.points(c[0], c[1], c[2], c[3], c[4]), -1);
        }
        DUE.is("null", g.points(0, 0, 0, -5, 1), -11);
        g.sheet(0, 1, 40);
        g.item(0, 1, 0, 64);
        DUE.is("cast ahead of index", g.points(0, 0, 0, -5, 1), -12);
        DUE.is("index below", g.points(0, 0, 1, -1, 1), -13);
        DUE.is("index above", g.points(0, 0, 1, 1, 10), -13);
        DUE.is("index far above", g.points(0, 0, 1, Integer.MAX_VALUE, 10), -13);
        DUE.is("index far below", g.points(0, 0, 1, Integer.MIN_VALUE, 1), -13);
        DUE.is("not, as x is 64", g.points(0, 0, 1, 0, 10), -2);
        DUE.is("nothing came", g.count(0, 11), 0);
        DUE.is("the last that may be", g.points(0, 0, 1, 36, 1), 1);
    }

    private static void pointsRefuseWhatIsNotAsTold() {
        int[][] not = {{-1, 0, 0, 0}, {64, 0, 0, 0}, {0, -1, 0, 0}, {0, 64, 0, 0}, {0, 0, -3001, 0},
            {0, 0, 3001, 0}, {0, 0, 0, -1}, {0, 0, 0, 4}, {Integer.MIN_VALUE, 0, 0, 0}, {0, Integer.MAX_VALUE, 0, 0},
            {0, 0, Integer.MIN_VALUE, 0}, {0, 0, 0, Integer.MAX_VALUE}, {64, 64, 3001, 4}};
        for (int[] c : not) {
            RayGround g = new RayGround();
            DUE.is("a point that is not as told", Due.put(g, 0, c), -2);
            DUE.is("behind one that is", Due.put(g, 0, 1, 1, 1, 1, c[0], c[1], c[2], c[3]), -2);
            DUE.is("ahead of one that is", Due.put(g, 0, c[0], c[1], c[2], c[3], 1, 1, 1, 1), -2);
            DUE.is("nothing came", g.count(0, 11), 0);
        }
        RayGround g = new RayGround();
        DUE.is("the edges", Due.put(g, 0, 0, 0, -3000, 0, 63, 63, 3000, 3), 2);
        g.lose(0, 0);
        DUE.is("in a tile that is lost", Due.put(g, 0, 20, 20, 0, 0, 15, 15, 0, 0), -2);
        DUE.is("nothing came", g.count(0, 11), 1);
        DUE.is("the other year's is not lost", Due.put(g, 1, 15, 15, 0, 0), 1);
        DUE.is("beside it", Due.put(g, 0, 16, 15, 0, 0, 15, 16, 0, 0), 3);
    }

    private static void pointsFill() {
        RayGround g = new RayGround();
        g.sheet(0, 0, 40);
        for (int k = 1; k <= 9; k++) {
            DUE.is("ten more", g.points(0, 0, 0, 0, 10), 10 * k);
        }
        DUE.is("five more", g.points(0, 0, 0, 0, 5), 95);
        DUE.is("six are too many", g.points(0, 0, 0, 0, 6), -3);
        DUE.is("none came", g.count(0, 11), 95);
        DUE.is("the last five", g.points(0, 0, 0, 0, 5), 100);
        DUE.is("full", g.points(0, 0, 0, 0, 1), -3);
        g.item(0, 0, 0, 64);
        DUE.is("not ahead of full", g.points(0, 0, 0, 0, 1), -2);
        DUE.is("index ahead of not and full", g.points(0, 0, 0, 40, 1), -13);
        DUE.is("the other year is not full", g.points(1, 0, 0, 4, 9), 9);
        g.lose(0, 0);
        DUE.is("lost ahead of full", g.points(0, 0, 0, 4, 1), -2);
        DUE.is("room again elsewhere", Due.put(g, 0, 63, 63, 0, 0), 1);
    }

    private static void toldAnswers() {
        RayGround g = new RayGround();
        Due.put(g, 1, 10, 20, -300, 2, 11, 20, -300, 3);
        g.shift(1, 2, 1000);
        DUE.is("x", g.told(1, 0, 0), 10);
        DUE.is("y", g.told(1, 0, 1), 20);
        DUE.is("height", g.told(1, 0, 2), 700);
        DUE.is("height of another strip", g.told(1, 1, 2), -300);
        DUE.is("strip", g.told(1, 0, 3), 2);
        g.hand(1, 0, 1);
        DUE.is("ground", g.told(1, 0, 4), 1);
        DUE.is("by hand", g.told(1, 0, 5), 1);
        DUE.is("round", g.told(1, 0, 6), 0);
        g.hand(1, 0, 2);
        DUE.is("high", g.told(1, 0, 4), 2);
        DUE.is("by hand", g.told(1, 0, 5), 2);
        DUE.is("no round, as it is not ground", g.told(1, 0, 6), -1);
    }

    private static void toldRefuses() {
        RayGround g = new RayGround();
        Due.put(g, 0, 1, 1, 1, 1);
        int[][] bad = {{-1, 0, 0}, {2, 0, 0}, {0, -1, 0}, {0, 1, 0}, {0, 0, -1}, {0, 0, 7}, {1, 0, 0},
            {0, 100, 0}, {0, Integer.MAX_VALUE, 0}, {0, 0, Integer.MIN_VALUE}};
        for (int[] c : bad) {
            DUE.is("told bad", g.told(c[0], c[1], c[2]), -10001);
        }
    }

    private static void loseAnswers() {
        RayGround g = new RayGround();
        Due.put(g, 0, 0, 0, 1, 0, 20, 0, 2, 0, 15, 15, 3, 1, 16, 0, 4, 2, 0, 20, 5, 3, 31, 15, 6, 0);
        Due.put(g, 1, 0, 0, 1, 0);
        g.grow(0, 100, 1, 20);
        g.hand(0, 3, 2);
        DUE.is("two went", g.lose(0, 0), 2);
        DUE.is("four are left", g.count(0, 11), 4);
        DUE.is("one tile is lost", g.count(0, 12), 1);
        int[] z = {2, 4, 5, 6};
        for (int p = 0; p < z.length; p++) {
            DUE.is("in order", g.told(0, p, 2), z[p]);
        }
        DUE.is("what it is moves too", g.told(0, 0, 4), 1);
        DUE.is("the round moves too", g.told(0, 0, 6), 0);
        DUE.is("another's round", g.told(0, 3, 6), 1);
        DUE.is("by hand moves too", g.told(0, 1, 5), 2);
        DUE.is("not by hand", g.told(0, 2, 5), 0);
        DUE.is("the strip moves too", g.told(0, 2, 3), 3);
        DUE.is("no fifth", g.told(0, 4, 0), -10001);
        DUE.is("the other year's stay", g.count(1, 11), 1);
        DUE.is("the other year's tiles stay", g.count(1, 12), 0);
        // All that a point is moves along, and what comes into a place that was left has nothing of it.
        RayGround h = new RayGround();
        Due.put(h, 0, 50, 50, 0, 0, 1, 2, 3, 1, 7, 9, 5, 2, 8, 10, 6, 3);
        h.grow(0, 0, 1, 1);
        h.hand(0, 3, 2);
        DUE.is("one went", h.lose(0, 15), 1);
        int[][] left = {{1, 2, 3, 1, 1, 0, 0}, {7, 9, 5, 2, 2, 0, -1}, {8, 10, 6, 3, 2, 2, -1}};
        for (int p = 0; p < left.length; p++) {
            for (int what = 0; what < 7; what++) {
                DUE.is("all of it, " + p + " " + what, h.told(0, p, what), left[p][what]);
            }
        }
        h.hand(0, 1, 1);
        h.lose(0, 0);
        DUE.is("three come", Due.put(h, 0, 40, 40, 1, 0, 40, 41, 1, 0, 40, 42, 1, 0), 3);
        for (int p = 0; p < 3; p++) {
            DUE.is("open", h.told(0, p, 4), 0);
            DUE.is("not by hand", h.told(0, p, 5), 0);
            DUE.is("no round", h.told(0, p, 6), -1);
        }
        DUE.is("none went", g.lose(0, 15), 0);
        DUE.is("two tiles are lost", g.count(0, 12), 2);
        DUE.is("the rest", g.lose(0, 1), 3);
        DUE.is("one is left", g.count(0, 11), 1);
    }

    private static void loseRefuses() {
        RayGround g = new RayGround();
        Due.put(g, 0, 0, 0, 0, 0);
        DUE.is("bad year", g.lose(2, 0), -1);
        DUE.is("bad year", g.lose(-1, 0), -1);
        DUE.is("bad tile", g.lose(0, -1), -1);
        DUE.is("bad tile", g.lose(0, 16), -1);
        DUE.is("it stays", g.count(0, 11), 1);
        DUE.is("lost", g.lose(0, 0), 1);
        DUE.is("lost already", g.lose(0, 0), -2);
        DUE.is("bad ahead of that", g.lose(2, 0), -1);
        DUE.is("one is lost", g.count(0, 12), 1);
    }

    private static void tilesOfPoints() {
        for (int tile = 0; tile < 16; tile++) {
            RayGround g = new RayGround();
            int x = 16 * (tile % 4);
            int y = 16 * (tile / 4);
            Due.put(g, 0, x, y, 0, 0, x + 15, y, 0, 0, x, y + 15, 0, 0, x + 15, y + 15, 0, 0);
            DUE.is("of another tile", g.lose(0, (tile + 1) % 16), 0);
            DUE.is("of another tile", g.lose(0, (tile + 4) % 16), 0);
            DUE.is("of this tile", g.lose(0, tile), 4);
            DUE.is("none can come", Due.put(g, 0, x + 7, y + 9, 0, 0), -2);
        }
    }

    private static void boxAnswers() {
        RayGround g = new RayGround();
        Due.put(g, 0, 5, 5, 0, 0, 5, 6, 0, 0, 6, 5, 0, 0, 6, 6, 0, 0, 63, 63, 0, 0, 0, 0, 0, 0, 5, 5, 9, 1);
        DUE.is("one place", g.box(0, 5, 5, 5, 5), 2);
        DUE.is("edges count", g.box(0, 5, 5, 6, 6), 5);
        DUE.is("along x", g.box(0, 5, 5, 6, 5), 3);
        DUE.is("along y", g.box(0, 6, 5, 6, 6), 2);
        DUE.is("all", g.box(0, 0, 0, 63, 63), 7);
        DUE.is("the far corner", g.box(0, 63, 63, 63, 63), 1);
        DUE.is("none", g.box(0, 7, 7, 62, 62), 0);
        DUE.is("of the other year", g.box(1, 0, 0, 63, 63), 0);
    }

    private static void boxRefuses() {
        RayGround g = new RayGround();
        int[][] bad = {{-1, 0, 0, 1, 1}, {2, 0, 0, 1, 1}, {0, -1, 0, 1, 1}, {0, 0, -1, 1, 1}, {0, 0, 0, 64, 1},
            {0, 0, 0, 1, 64}, {0, 2, 0, 1, 1}, {0, 0, 2, 1, 1}, {0, 64, 0, 64, 0}, {0, -2, 0, -1, 0}};
        for (int[] c : bad) {
            DUE.is("box bad", g.box(c[0], c[1], c[2], c[3], c[4]), -1);
        }
        g.lose(0, 5);
        DUE.is("bad ahead of not", g.box(0, 20, 20, 19, 64), -1);
        DUE.is("inside", g.box(0, 20, 20, 21, 21), -2);
        DUE.is("around", g.box(0, 0, 0, 63, 63), -2);
        DUE.is("its first corner", g.box(0, 0, 0, 16, 16), -2);
        DUE.is("its last corner", g.box(0, 31, 31, 40, 40), -2);
        DUE.is("a strip through it", g.box(0, 0, 31, 63, 31), -2);
        DUE.is("short of it by x", g.box(0, 0, 0, 15, 63), 0);
        DUE.is("short of it by y", g.box(0, 0, 0, 63, 15), 0);
        DUE.is("behind it by x", g.box(0, 32, 0, 63, 63), 0);
        DUE.is("behind it by y", g.box(0, 0, 32, 63, 63), 0);
        DUE.is("the other year's", g.box(1, 0, 0, 63, 63), 0);
    }

    private static void shiftAnswers() {
        RayGround g = new RayGround();
        Due.put(g, 0, 0, 0, 5, 0, 0, 0, 7, 3);
        DUE.is("what it was", g.shift(0, 3, 1000), 0);
        DUE.is("the other year's", g.shift(1, 3, -1000), 0);
        DUE.is("what it was", g.shift(0, 3, -1000), 1000);
        DUE.is("what it was", g.shift(1, 3, 0), -1000);
        DUE.is("strip 0 too", g.shift(0, 0, 9), 0);
        DUE.is("height", g.told(0, 0, 2), 14);
        DUE.is("height", g.told(0, 1, 2), -993);
        g.hand(0, 0, 1);
        DUE.is("in the grid", g.grid(0, 0, 0), 14);
        g.shift(0, 0, 10);
        DUE.is("the grid goes along", g.grid(0, 0, 0), 15);
    }

    private static void shiftRefuses() {
        RayGround g = new RayGround();
        g.shift(0, 0, 4);
        int[][] bad = {{-1, 0, 0}, {2, 0, 0}, {0, -1, 0}, {0, 4, 0}, {0, 0, 1001}, {0, 0, -1001},
            {0, 0, Integer.MIN_VALUE}, {0, Integer.MAX_VALUE, 0}};
        for (int[] c : bad) {
            DUE.is("shift bad", g.shift(c[0], c[1], c[2]), -10001);
        }
        DUE.is("it stays", g.shift(0, 0, 4), 4);
    }
}
