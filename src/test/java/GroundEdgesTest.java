/** Promises 13, 14 and 16, edge by edge: what is told by hand, seeds, ways, slopes, rounds, counts. */
final class GroundEdgesTest {
    private static final Due DUE = new Due("GroundEdgesTest");
    private static final int OPEN = 0;
    private static final int GROUND = 1;
    private static final int HIGH = 2;

    public static void main(String[] args) {
        handOfEachKind();
        handOfTheFirstAndTheLast();
        handStaysWhateverIsDone();
        growNone();
        growOne();
        growWithoutSeeds();
        growSeedsOfLikeHeight();
        growSeedOfEachTile();
        growSeedByHandBesideTheLowest();
        growWaysUpToR();
        growSlopes();
        growInOnePlace();
        growFarBeyondAnInt();
        growAtOnce();
        growOverAHundred();
        growAnew();
        growYearsApart();
        countOfNone();
        countOfAHundred();
        countOfSquares();
        countOfTiles();
        DUE.end();
    }

    private static void is(String what, RayGround g, int point, int kind, int byHand, int round) {
        DUE.is(what + ": what it is", g.told(0, point, 4), kind);
        DUE.is(what + ": by hand", g.told(0, point, 5), byHand);
        DUE.is(what + ": its round", g.told(0, point, 6), round);
    }

    // Scene.rich has a point of each kind; the others stay as they are.
    private static void handOfEachKind() {
        int[][] kinds = {{1, 0, 0}, {1, 0, 1}, {1, 1, 0}, {2, 2, -1}, {3, 0, -1}, {3, 0, -1}, {3, 0, -1}, {3, 0, -1},
            {2, 0, -1}, {0, 0, -1}};
        for (int point = 0; point < kinds.length; point++) {
            for (int as = OPEN; as <= HIGH; as++) {
                RayGround g = Scene.rich();
                DUE.is("hand: what it was", g.hand(0, point, as), kinds[point][1]);
                for (int other = 0; other < kinds.length; other++) {
                    int[] want = other == point ? new int[] {as, as, as == GROUND ? 0 : -1} : kinds[other];
                    is("point " + point + " by hand " + as + ", point " + other, g, other, want[0], want[1], want[2]);
                }
                DUE.is("hand: what it is by hand now", g.hand(0, point, 0), as);
                is("hand: not any more", g, point, OPEN, 0, -1);
            }
        }
    }

    private static void handOfTheFirstAndTheLast() {
        RayGround g = Scene.full();
        DUE.is("hand: the first of 100", g.hand(0, 0, 1), 0);
        DUE.is("hand: the last of 100", g.hand(0, 99, 2), 0);
        DUE.is("hand: the first", g.told(0, 0, 4), GROUND);
        DUE.is("hand: the last", g.told(0, 99, 4), HIGH);
        DUE.is("hand: all others are open", g.count(0, 0), 98);
    }

    private static void handStaysWhateverIsDone() {
        RayGround g = Scene.rich();
        g.job(2);
        g.hand(0, 4, GROUND);
        g.hand(0, 0, HIGH);
        g.grow(0, 0, 1, 1);
        byHandStays("grow", g);
        g.grow(0, 100, 1, 20);
        byHandStays("grow further", g);
        g.roofs(0, 50, 3);
        byHandStays("roofs", g);
        g.shift(0, 0, -1000);
        byHandStays("shift", g);
        g.fit(0);
        byHandStays("fit", g);
        Due.put(g, 0, 1, 1, 1, 1);
        byHandStays("points", g);
        g.lose(0, 15);
        byHandStays("lose", g);
        g.hand(0, 9, GROUND);
        byHandStays("hand of another", g);
        DUE.is("a job", g.job(0), 2);
        byHandStays("job", g);
    }

    private static void byHandStays(String behind, RayGround g) {
        is("ground stays behind " + behind, g, 4, GROUND, 1, 0);
        is("high stays behind " + behind, g, 0, HIGH, 2, -1);
        is("ground of before stays behind " + behind, g, 2, GROUND, 1, 0);
        is("high of before stays behind " + behind, g, 3, HIGH, 2, -1);
    }

    private static void growNone() {
        RayGround g = new RayGround();
        DUE.is("grow of no points", g.grow(0, 0, 1, 1), 0);
        DUE.is("grow of no points, the most", g.grow(1, 100, 100, 20), 0);
    }

    private static void growOne() {
        RayGround g = new RayGround();
        Due.put(g, 0, 63, 63, 3000, 3);
        DUE.is("grow of one point", g.grow(0, 0, 100, 1), 1);
        is("one point", g, 0, GROUND, 0, 0);
    }

    private static void growWithoutSeeds() {
        RayGround g = new RayGround();
        Due.put(g, 0, 0, 0, 5, 0, 20, 0, 5, 0, 1, 0, 5, 0);
        g.hand(0, 0, HIGH);
        g.hand(0, 2, HIGH);
        DUE.is("a tile of high ones by hand has no seed", g.grow(0, 100, 1, 20), 1);
        is("no seed", g, 0, HIGH, 2, -1);
        is("a seed elsewhere", g, 1, GROUND, 0, 0);
        g.hand(0, 1, HIGH);
        DUE.is("no seeds at all", g.grow(0, 100, 1, 20), 0);
        is("no seeds at all", g, 1, HIGH, 2, -1);
    }

    // Heights are like by z and shift together; none is near another.
    private static void growSeedsOfLikeHeight() {
        int[][] heights = {{100, 130, 100}, {101, 130, 100}, {101, 131, 100}, {-5, 25, -6}};
        int[] firstOfLowest = {0, 1, 2, 2};
        for (int k = 0; k < heights.length; k++) {
            RayGround g = new RayGround();
            g.shift(0, 1, -30);
            Due.put(g, 0, 0, 3, heights[k][0], 0, 7, 3, heights[k][1], 1, 14, 3, heights[k][2], 0);
            DUE.is("like heights: one seed", g.grow(0, 0, 1, 6), 1);
            for (int point = 0; point < 3; point++) {
                boolean is = point == firstOfLowest[k];
                is("like heights, point " + point, g, point, is ? GROUND : HIGH, 0, is ? 0 : -1);
            }
        }
    }

    private static void growSeedOfEachTile() {
        RayGround g = new RayGround();
        for (int tile = 0; tile < 16; tile++) {
            int x = 16 * (tile % 4);
            int y = 16 * (tile / 4);
            Due.put(g, 0, x, y, 100 + tile, 0, x + 15, y + 15, 100 - tile, 0);
        }
        DUE.is("a seed of each tile", g.grow(0, 0, 1, 1), 16);
        for (int tile = 0; tile < 16; tile++) {
            // In tile 0 both are of one height: the first is its seed.
            is("its last place", g, 2 * tile + 1, tile == 0 ? HIGH : GROUND, 0, tile == 0 ? -1 : 0);
        }
    }

    private static void growSeedByHandBesideTheLowest() {
        RayGround g = new RayGround();
        Due.put(g, 0, 0, 0, 0, 0, 15, 15, 500, 0, 14, 15, 500, 0, 8, 8, 900, 0);
        g.hand(0, 1, GROUND);
        DUE.is("by hand and lowest", g.grow(0, 0, 1, 1), 3);
        is("lowest", g, 0, GROUND, 0, 0);
        is("by hand", g, 1, GROUND, 1, 0);
        is("from the one by hand", g, 2, GROUND, 0, 1);
        is("from none", g, 3, HIGH, 0, -1);
        g.hand(0, 0, HIGH);
        DUE.is("by hand is the lowest too", g.grow(0, 0, 1, 1), 2);
        is("high by hand", g, 0, HIGH, 2, -1);
    }

    /**
     * Point 0 at (0, 0) is ground by hand, of height 900; point 1 at (x, y) of another; point 2 is the seed of its
     * tile, far too low to come to or from.
     */
    private static RayGround two(int x, int y, int rise) {
        RayGround g = new RayGround();
        g.shift(0, 1, -1000);
        Due.put(g, 0, 0, 0, 900, 0, x, y, 900 + rise, 0, x / 16 * 16 + 15, y / 16 * 16 + 15, -3000, 1);
        Due.put(g, 0, 15, 15, -3000, 1);
        g.hand(0, 0, GROUND);
        return g;
    }

    private static void reached(String what, RayGround g, int a, int b, int r, boolean is) {
        g.grow(0, a, b, r);
        is(what + ", by " + a + " " + b + " " + r, g, 1, is ? GROUND : HIGH, 0, is ? 1 : -1);
    }

    private static void growWaysUpToR() {
        for (int r = 1; r <= 20; r++) {
            reached("along x, r " + r, two(r, 0, 0), 0, 100, r, true);
            reached("along y, r " + r, two(0, r, 0), 0, 100, r, true);
            reached("a little more than r " + r, two(r, 1, 0), 100, 1, r, false);
            reached("one more than r " + r, two(0, r + 1, 0), 100, 1, r, false);
        }
        int[][] whole = {{3, 4, 5}, {8, 6, 10}, {5, 12, 13}, {15, 8, 17}, {12, 16, 20}, {16, 12, 20}};
        for (int[] w : whole) {
            reached("aslant, just", two(w[0], w[1], 0), 0, 1, w[2], true);
            reached("aslant, one less", two(w[0], w[1], 0), 0, 1, w[2] - 1, false);
        }
    }

    // The rise that is just taken by a, b on a way, and that one more is not; up and down.
    private static void growSlopes() {
        int[][] slopes = {
            // x, y, a, b, the most that it may rise
            {3, 4, 10, 1, 50}, {3, 4, 100, 1, 500}, {3, 4, 100, 100, 5}, {3, 4, 1, 100, 0}, {3, 4, 99, 100, 4},
            {3, 4, 7, 3, 11}, {3, 4, 0, 1, 0}, {3, 4, 0, 100, 0}, {1, 1, 100, 1, 141}, {1, 1, 1, 1, 1},
            {1, 1, 100, 100, 1}, {12, 16, 100, 1, 2000}, {12, 16, 100, 100, 20}, {12, 16, 1, 20, 1}, {12, 16, 1, 21, 0},
            {14, 14, 100, 1, 1979}, {1, 0, 1, 1, 1}, {1, 0, 1, 2, 0}, {1, 0, 2, 1, 2},
        };
        for (int[] s : slopes) {
            for (int sign = -1; sign <= 1; sign += 2) {
                reached("just", two(s[0], s[1], sign * s[4]), s[2], s[3], 20, true);
                reached("one more", two(s[0], s[1], sign * (s[4] + 1)), s[2], s[3], 20, false);
            }
        }
    }

    private static void growInOnePlace() {
        reached("one place, like heights", two(0, 0, 0), 0, 1, 1, true);
        reached("one place, one above", two(0, 0, 1), 100, 1, 20, false);
        reached("one place, one below", two(0, 0, -1), 100, 1, 20, false);
    }

    private static void growFarBeyondAnInt() {
        RayGround g = new RayGround();
        Due.put(g, 0, 0, 0, -3000, 0, 1, 0, 3000, 1, 2, 0, 3000, 1, 15, 13, 3000, 1);
        g.shift(0, 0, -1000);
        g.shift(0, 1, 1000);
        DUE.is("8000 up, b 100", g.grow(0, 100, 100, 20), 1);
        DUE.is("8000 up, b 1", g.grow(0, 100, 1, 20), 1);
        // Squares of ints that wrap around would seem small for some of these.
        for (int b = 1; b <= 100; b++) {
            DUE.is("8000 up, b " + b, g.grow(0, 100, b, 20), 1);
        }
    }

    // What has come in a round is no way for others in the same one, whatever the numbers are.
    private static void growAtOnce() {
        int[][] orders = {{0, 1, 2, 3}, {3, 2, 1, 0}, {1, 3, 0, 2}, {2, 0, 3, 1}};
        for (int[] order : orders) {
            RayGround g = new RayGround();
            for (int place : order) {
                Due.put(g, 0, 2 * place, 0, place, 0);
            }
            DUE.is("at once", g.grow(0, 1, 1, 2), 4);
            for (int point = 0; point < 4; point++) {
                is("at once: place " + order[point], g, point, GROUND, 0, order[point]);
            }
        }
    }

    // A way through 100 places of tile 0, row by row to and fro, 60 up for each; one row is too far up for the next.
    private static void growOverAHundred() {
        for (int turned = 0; turned < 2; turned++) {
            RayGround g = new RayGround();
            int[] items = new int[400];
            for (int k = 0; k < 100; k++) {
                int step = turned == 1 ? 99 - k : k;
                items[4 * k] = step / 16 % 2 == 0 ? step % 16 : 15 - step % 16;
                items[4 * k + 1] = step / 16;
                items[4 * k + 2] = 60 * step - 3000;
            }
            Due.put(g, 0, items);
            DUE.is("100: too steep", g.grow(0, 59, 1, 1), 1);
            DUE.is("100: all", g.grow(0, 60, 1, 1), 100);
            DUE.is("100: the first", g.told(0, turned == 1 ? 99 : 0, 6), 0);
            DUE.is("100: round 1", g.told(0, turned == 1 ? 98 : 1, 6), 1);
            DUE.is("100: round 50", g.told(0, turned == 1 ? 49 : 50, 6), 50);
            DUE.is("100: round 98", g.told(0, turned == 1 ? 1 : 98, 6), 98);
            DUE.is("100: round 99", g.told(0, turned == 1 ? 0 : 99, 6), 99);
            DUE.is("100: count", g.count(0, 1), 100);
        }
    }

    // Growing begins at the seeds each time, and all that is not ground then is high: open ones and roofs, too.
    private static void growAnew() {
        RayGround g = Scene.rich();
        DUE.is("anew: two seeds and one by hand", g.grow(0, 0, 1, 1), 3);
        int[] kinds = {1, 2, 1, 2, 2, 2, 2, 2, 2, 1};
        Due.put(g, 0, 60, 3, 7, 1);
        DUE.is("anew: open", g.told(0, 10, 4), OPEN);
        for (int point = 0; point < kinds.length; point++) {
            DUE.is("anew: point " + point, g.told(0, point, 4), kinds[point]);
        }
        DUE.is("anew: no more than those", g.grow(0, 0, 1, 1), 3);
        DUE.is("anew: the open one is high", g.told(0, 10, 4), HIGH);
        DUE.is("anew: the seed of its tile", g.told(0, 9, 4), GROUND);
    }

    private static void growYearsApart() {
        RayGround g = new RayGround();
        Due.put(g, 0, 0, 0, 5, 0);
        Due.put(g, 1, 0, 0, 5, 0);
        g.grow(1, 1, 1, 1);
        DUE.is("year 0 is open", g.count(0, 0), 1);
        DUE.is("year 1 is ground", g.count(1, 1), 1);
    }

    private static void countOfNone() {
        RayGround g = new RayGround();
        for (int what = 0; what <= 13; what++) {
            DUE.is("count " + what + " of none", g.count(0, what), 0);
        }
    }

    private static void countOfAHundred() {
        RayGround g = Scene.full();
        DUE.is("100: open", g.count(0, 0), 100);
        DUE.is("100: all", g.count(0, 11), 100);
        DUE.is("100: no squares", g.count(0, 13), 0);
        g.grow(0, 0, 1, 1);
        DUE.is("100: ground", g.count(0, 1), 100);
        DUE.is("100: none is open", g.count(0, 0), 0);
        DUE.is("100: one square", g.count(0, 13), 1);
        for (int point = 0; point < 100; point++) {
            g.hand(0, point, HIGH);
        }
        DUE.is("100: high, by hand", g.count(0, 2), 100);
        for (int roof = 3; roof <= 10; roof++) {
            DUE.is("100: no roof", g.count(0, roof), 0);
        }
        DUE.is("100: of the other year", g.count(1, 11), 0);
    }

    private static void countOfSquares() {
        RayGround g = new RayGround();
        Scene.field(g, 0, 10, 10, 5);
        DUE.is("100 squares", g.count(0, 13), 100);
        g.hand(0, 0, HIGH);
        DUE.is("99 squares", g.count(0, 13), 99);
        g.hand(0, 99, OPEN);
        DUE.is("98 squares", g.count(0, 13), 98);
        DUE.is("of the other year", g.count(1, 13), 0);
    }

    private static void countOfTiles() {
        RayGround g = new RayGround();
        for (int tile = 15; tile >= 0; tile--) {
            DUE.is("lost ones", g.count(1, 12), 15 - tile);
            g.lose(1, tile);
        }
        DUE.is("all are lost", g.count(1, 12), 16);
        DUE.is("none of the other year", g.count(0, 12), 0);
    }
}
