/** Promise 15, edge by edge: no high points, 40 and 41, t and m at their ends, planes of like size, eight roofs. */
final class RoofEdgesTest {
    private static final Due DUE = new Due("RoofEdgesTest");
    private static final Refused REFUSED = new Refused(DUE);
    private static final int TOO_MANY = -3;
    /** The points ahead of those that are raised: a low one in each tile. */
    private static final int LOW = 16;

    public static void main(String[] args) {
        roofsOfNone();
        roofsOfOpenAndGround();
        roofsOfOneAndTwo();
        roofsOfThree();
        roofsAsLargeAsM();
        roofsOf40();
        roofsOf41();
        roofsOf100();
        roofsCountNoneByHand();
        offByT();
        offByHalves();
        threeOnALine();
        likePlanesByTheLast();
        likePlanesByTheNext();
        likePlanesByTheLeast();
        likePlanesWithinT();
        largerPlanesAhead();
        eightRoofs();
        nineRoofs();
        roofsAreHighAgain();
        roofsOfFarHeights();
        DUE.end();
    }

    /** Points of (x, y, z) that are high, numbered from LOW on; none of them may be -3000 high. */
    private static RayGround raised(int... places) {
        RayGround g = new RayGround();
        int[] items = new int[4 * LOW];
        for (int tile = 0; tile < LOW; tile++) {
            items[4 * tile] = tile % 4 * 16 + 15;
            items[4 * tile + 1] = tile / 4 * 16 + 15;
            items[4 * tile + 2] = -3000;
        }
        Due.put(g, 0, items);
        int[] more = new int[places.length / 3 * 4];
        for (int k = 0; k < places.length; k++) {
            more[k / 3 * 4 + k % 3] = places[k];
        }
        Due.put(g, 0, more);
        g.grow(0, 0, 1, 1);
        DUE.is("raised", g.count(0, 2), places.length / 3);
        return g;
    }

    /** n points, no three of which are on a line by x, y, and no four on a plane. */
    private static int[] scattered(int n) {
        int[] places = new int[3 * n];
        for (int p = 0; p < n; p++) {
            places[3 * p] = p;
            places[3 * p + 1] = p * p % 61;
            places[3 * p + 2] = p * p * p % 5003 - 2500;
        }
        return places;
    }

    /** n points of one height, no three of which are on a line. */
    private static int[] level(int n) {
        int[] places = scattered(n);
        for (int p = 0; p < n; p++) {
            places[3 * p + 2] = 7;
        }
        return places;
    }

    private static void kindsAre(String what, RayGround g, int... want) {
        for (int k = 0; k < want.length; k++) {
            DUE.is(what + ": point " + k, g.told(0, LOW + k, 4), want[k]);
            DUE.is(what + ": by hand " + k, g.told(0, LOW + k, 5), 0);
            DUE.is(what + ": round " + k, g.told(0, LOW + k, 6), -1);
        }
        for (int tile = 0; tile < LOW; tile++) {
            DUE.is(what + ": ground stays", g.told(0, tile, 4), 1);
        }
    }

    private static void roofsOfNone() {
        RayGround g = new RayGround();
        DUE.is("no points", g.roofs(0, 0, 3), 0);
        DUE.is("no points, the most", g.roofs(1, 50, 40), 0);
    }

    private static void roofsOfOpenAndGround() {
        RayGround g = Scene.full();
        DUE.is("100 open ones", g.roofs(0, 50, 3), 0);
        DUE.is("they stay open", g.count(0, 0), 100);
        Scene.field(g, 1, 10, 10, 5);
        DUE.is("100 of ground", g.roofs(1, 50, 3), 0);
        DUE.is("they stay ground", g.count(1, 1), 100);
    }

    private static void roofsOfOneAndTwo() {
        RayGround one = raised(1, 1, 5);
        DUE.is("one high point", one.roofs(0, 50, 3), 0);
        kindsAre("one high point", one, 2);
        RayGround two = raised(1, 1, 5, 9, 2, 5);
        DUE.is("two high points", two.roofs(0, 50, 3), 0);
        kindsAre("two high points", two, 2, 2);
    }

    private static void roofsOfThree() {
        RayGround g = raised(1, 1, 5, 9, 2, 500, 3, 13, -500);
        DUE.is("three, m 4", g.roofs(0, 50, 4), 0);
        kindsAre("three, m 4", g, 2, 2, 2);
        DUE.is("three, m 3", g.roofs(0, 0, 3), 1);
        kindsAre("three, m 3", g, 3, 3, 3);
        DUE.is("three, m 4 again", g.roofs(0, 0, 4), 0);
        kindsAre("three, m 4 again", g, 2, 2, 2);
    }

    private static void roofsAsLargeAsM() {
        for (int n = 3; n <= 40; n++) {
            RayGround g = raised(level(n));
            DUE.is("a plane of m", g.roofs(0, 0, n), 1);
            DUE.is("a plane of m: all", g.count(0, 3), n);
            DUE.is("a plane of m: no high ones", g.count(0, 2), 0);
            if (n < 40) {
                DUE.is("a plane of one less than m", g.roofs(0, 0, n + 1), 0);
                DUE.is("a plane of one less: high", g.count(0, 2), n);
            }
        }
    }

    private static void roofsOf40() {
        RayGround g = Scene.high(40);
        DUE.is("40: m 40", g.roofs(0, 50, 40), 1);
        DUE.is("40: all", g.count(0, 3), 40);
        DUE.is("40: again, as those of roofs are high again", g.roofs(0, 0, 3), 1);
        RayGround s = raised(scattered(40));
        DUE.is("40 scattered: m 4", s.roofs(0, 0, 4), 0);
        DUE.is("40 scattered: m 3", s.roofs(0, 0, 3), 8);
        DUE.is("40 scattered: what is left", s.count(0, 2), 16);
    }

    private static void roofsOf41() {
        REFUSED.is("41 on a plane", () -> Scene.high(41), TOO_MANY, g -> g.roofs(0, 0, 3));
        REFUSED.is("41, the most t and m", () -> Scene.high(41), TOO_MANY, g -> g.roofs(0, 50, 40));
        REFUSED.is("41 scattered", () -> raised(scattered(41)), TOO_MANY, g -> g.roofs(0, 0, 3));
        RayGround g = Scene.high(41);
        g.hand(0, 40, 0);
        DUE.is("41, one of them open", g.roofs(0, 0, 40), 1);
        DUE.is("41, one of them open: it stays", g.count(0, 0), 1);
    }

    private static void roofsOf100() {
        Look.Maker many = () -> {
            RayGround g = new RayGround();
            Due.put(g, 0, 0, 0, -3000, 0);
            Due.putRow(g, 0, 5, 5, 7, 9);
            g.sheet(0, 0, 40);
            for (int i = 0; i < 40; i++) {
                g.item(0, 0, i, i % 4 == 3 ? 0 : 7);
            }
            for (int k = 0; k < 9; k++) {
                g.points(0, 0, 0, 0, 10);
            }
            g.grow(0, 0, 1, 1);
            return g;
        };
        DUE.is("99 are high", many.make().count(0, 2), 99);
        REFUSED.is("99 are high", many, TOO_MANY, g -> g.roofs(0, 0, 3));
        RayGround g = many.make();
        for (int point = 41; point < 100; point++) {
            g.hand(0, point, 2);
        }
        DUE.is("40 and 59 by hand", g.roofs(0, 0, 40), 1);
        DUE.is("40 and 59 by hand: the roof", g.count(0, 3), 40);
        DUE.is("40 and 59 by hand: those by hand", g.count(0, 2), 59);
    }

    private static void roofsCountNoneByHand() {
        RayGround g = Scene.high(41);
        g.hand(0, 0, 2);
        DUE.is("41, one by hand", g.roofs(0, 0, 40), 1);
        DUE.is("41, one by hand: it is of no roof", g.told(0, 0, 4), 2);
        DUE.is("41, one by hand: the others are", g.count(0, 3), 40);
        g.hand(0, 1, 2);
        DUE.is("39 left, m 40", g.roofs(0, 0, 40), 0);
        DUE.is("39 left, m 39", g.roofs(0, 0, 39), 1);
        RayGround three = raised(1, 1, 5, 9, 2, 5, 3, 13, 5);
        three.hand(0, LOW, 2);
        DUE.is("two and one by hand", three.roofs(0, 50, 3), 0);
        three.hand(0, LOW, 1);
        DUE.is("two and one of ground by hand", three.roofs(0, 50, 3), 0);
    }

    // Of four corners of a rectangle each is as far off the plane of the others.
    private static void offByT() {
        for (int t = 0; t <= 50; t++) {
            for (int sign = -1; sign <= 1; sign += 2) {
                RayGround g = raised(0, 0, 0, 8, 0, 0, 0, 8, 0, 8, 8, sign * t);
                DUE.is("off by t", g.roofs(0, t, 4), 1);
                kindsAre("off by t", g, 3, 3, 3, 3);
                RayGround h = raised(0, 0, 0, 8, 0, 0, 0, 8, 0, 8, 8, sign * (t + 1));
                DUE.is("off by more than t", h.roofs(0, t, 4), 0);
                kindsAre("off by more than t", h, 2, 2, 2, 2);
                DUE.is("off by more than t: three", h.roofs(0, t, 3), 1);
                kindsAre("off by more than t: three", h, 3, 3, 3, 2);
            }
        }
    }

    // The plane of the first three is a half high at the fourth, which all other planes miss by more.
    private static void offByHalves() {
        int[][] cases = {{0, 0, 0}, {0, 1, 0}, {1, 0, 1}, {1, 1, 1}, {1, 2, 0}, {1, -1, 0}, {50, 50, 1}, {50, 51, 0},
            {50, -49, 1}, {50, -50, 0}, {49, 50, 0}, {49, -49, 0}};
        for (int[] c : cases) {
            RayGround g = raised(0, 0, 0, 2, 0, 1, 0, 2, 0, 1, 1, c[1]);
            DUE.is("off by halves, t " + c[0] + ", " + c[1], g.roofs(0, c[0], 4), c[2]);
        }
        // A third high, the triangle of the first three being turned the other way.
        RayGround up = raised(0, 0, 0, 0, 3, 1, 3, 0, 0, 1, 1, 2);
        DUE.is("off by five thirds, t 1", up.roofs(0, 1, 4), 0);
        DUE.is("off by five thirds, t 2", up.roofs(0, 2, 4), 1);
        RayGround down = raised(0, 0, 0, 0, 3, 1, 3, 0, 0, 1, 1, -1);
        DUE.is("off by four thirds below, t 1", down.roofs(0, 1, 4), 0);
        DUE.is("off by four thirds below, t 2", down.roofs(0, 2, 4), 1);
    }

    private static void threeOnALine() {
        DUE.is("in one place", raised(3, 3, 5, 3, 3, 5, 3, 3, 5, 3, 3, 6).roofs(0, 50, 3), 0);
        DUE.is("along x", raised(1, 3, 5, 2, 3, 5, 9, 3, 5, 14, 3, 5).roofs(0, 50, 3), 0);
        DUE.is("along y", raised(3, 1, 5, 3, 2, 5, 3, 9, 5, 3, 14, 5).roofs(0, 50, 3), 0);
        DUE.is("aslant", raised(1, 2, 5, 3, 5, 500, 5, 8, 900, 9, 14, -5).roofs(0, 50, 3), 0);
        DUE.is("two in one place", raised(3, 3, 5, 3, 3, 7, 9, 4, 5).roofs(0, 50, 3), 0);
        RayGround g = raised(1, 1, 5, 2, 2, 500, 3, 3, 5, 9, 4, 5);
        DUE.is("a line and one beside it", g.roofs(0, 0, 3), 1);
        kindsAre("a line and one beside it", g, 3, 3, 2, 3);
    }

    private static void likePlanesByTheLast() {
        RayGround g = raised(scattered(4));
        DUE.is("of all threes the first", g.roofs(0, 0, 3), 1);
        kindsAre("of all threes the first", g, 3, 3, 3, 2);
        // 0, 1, 2, 5 are on z = 100 + 2 x, and 0, 1, 3, 4 on z = 100 + y.
        RayGround h = raised(0, 0, 100, 1, 2, 102, 5, 3, 110, 2, 5, 105, 3, 1, 101, 7, 1, 114);
        DUE.is("the first by the last", h.roofs(0, 0, 4), 1);
        kindsAre("the first by the last", h, 3, 3, 3, 2, 2, 3);
    }

    private static void likePlanesByTheNext() {
        // 0 and 1 are in one place, so that no plane is through both.
        RayGround g = raised(0, 0, 0, 0, 0, 700, 5, 1, 100, 2, 9, 350, 11, 6, -900);
        DUE.is("the first by the next, as 0 and 1 have none", g.roofs(0, 0, 3), 1);
        kindsAre("the first by the next, as 0 and 1 have none", g, 3, 2, 3, 3, 2);
        // 0, 1, 5, 6 are on z = 100 + 2 x, and 0, 2, 3, 4 on z = 100 + 3 y.
        RayGround h = raised(0, 0, 100, 1, 2, 102, 2, 1, 103, 3, 4, 112, 1, 6, 118, 5, 3, 110, 7, 1, 114);
        DUE.is("the first by the next", h.roofs(0, 0, 4), 1);
        kindsAre("the first by the next", h, 3, 3, 2, 2, 2, 3, 3);
        DUE.is("then the other, of three", h.roofs(0, 0, 3), 2);
        kindsAre("then the other, of three", h, 3, 3, 4, 4, 4, 3, 3);
    }

    private static void likePlanesByTheLeast() {
        // 1, 2, 3, 4 are level at 50, and 0, 5, 6, 7 at 900.
        RayGround g = raised(1, 1, 900, 4, 0, 50, 6, 2, 50, 3, 7, 50, 9, 6, 50, 8, 12, 900, 12, 3, 900, 2, 14, 900);
        DUE.is("the first by the least", g.roofs(0, 0, 4), 2);
        kindsAre("the first by the least", g, 3, 4, 4, 4, 4, 3, 3, 3);
    }

    // By t 5 six planes hold four each, no two the same four: 0 1 2 (and 6), 0 1 3 (6), 0 2 4 (3), 1 2 3 (6), ..
    private static void likePlanesWithinT() {
        RayGround g = raised(5, 13, 57, 0, 13, 7, 6, 1, 47, 6, 6, 45, 10, 4, 18, 6, 14, 0, 3, 7, 23);
        DUE.is("like planes within t", g.roofs(0, 5, 4), 1);
        kindsAre("like planes within t", g, 3, 3, 3, 2, 2, 2, 3);
        DUE.is("like planes within t, and what is left", g.roofs(0, 5, 3), 2);
        kindsAre("like planes within t, and what is left", g, 3, 3, 3, 4, 4, 4, 3);
    }

    private static void largerPlanesAhead() {
        RayGround g = raised(1, 1, 50, 4, 0, 50, 6, 2, 50, 8, 12, 900, 12, 3, 900, 2, 13, 900, 9, 9, 900);
        DUE.is("the larger ahead", g.roofs(0, 0, 3), 2);
        kindsAre("the larger ahead", g, 4, 4, 4, 3, 3, 3, 3);
    }

    private static void eightRoofs() {
        RayGround g = raised(scattered(24));
        DUE.is("eight of three", g.roofs(0, 0, 3), 8);
        int[] want = new int[24];
        for (int p = 0; p < 24; p++) {
            want[p] = 3 + p / 3;
        }
        kindsAre("eight of three", g, want);
        for (int roof = 3; roof <= 10; roof++) {
            DUE.is("eight of three: count", g.count(0, roof), 3);
        }
        DUE.is("eight of three: none is high", g.count(0, 2), 0);
        DUE.is("seven of three", raised(scattered(23)).roofs(0, 0, 3), 7);
    }

    private static void nineRoofs() {
        RayGround g = raised(scattered(27));
        DUE.is("nine of three: eight at most", g.roofs(0, 0, 3), 8);
        for (int p = 0; p < 27; p++) {
            DUE.is("nine of three: point " + p, g.told(0, LOW + p, 4), p < 24 ? 3 + p / 3 : 2);
        }
        DUE.is("nine of three: the ninth is high", g.count(0, 2), 3);
    }

    private static void roofsAreHighAgain() {
        RayGround g = raised(scattered(24));
        DUE.is("again: eight", g.roofs(0, 0, 3), 8);
        DUE.is("again: eight", g.roofs(0, 0, 3), 8);
        DUE.is("again: of four", g.roofs(0, 0, 4), 0);
        DUE.is("again: all are high", g.count(0, 2), 24);
        DUE.is("again: eight", g.roofs(0, 0, 3), 8);
        DUE.is("again: grown", g.grow(0, 0, 1, 1), 16);
        DUE.is("again: grown, all are high", g.count(0, 2), 24);
    }

    // A plane that falls by 99 for each x, from end to end.
    private static void roofsOfFarHeights() {
        for (int off = -1; off <= 1; off++) {
            RayGround g = raised(0, 0, 2990, 60, 0, -2950, 0, 60, 2990, 60, 60, -2950, 30, 30, 20 + off);
            g.shift(0, 0, 1000);
            DUE.is("far: all five", g.roofs(0, 0, 5), off == 0 ? 1 : 0);
            DUE.is("far: four of them", g.roofs(0, 0, 4), 1);
            kindsAre("far", g, 3, 3, 3, 3, off == 0 ? 3 : 2);
            DUE.is("far: by t 1", g.roofs(0, 1, 5), 1);
        }
    }
}
