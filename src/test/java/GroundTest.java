/** Promises 13 to 16: hand, grow, roofs, count. */
final class GroundTest {
    private static final Due DUE = new Due("GroundTest");

    public static void main(String[] args) {
        handAnswers();
        handRefuses();
        growSeeds();
        growSteps();
        growBounds();
        growMinds();
        growRefuses();
        roofsFindTheBest();
        roofsOfLikeOnes();
        roofsOneBehindTheOther();
        roofsOfMarks();
        roofsFull();
        roofsFullFromTheFirst();
        roofsRefuse();
        countAnswers();
        DUE.end();
    }

    private static void kindsAre(String what, RayGround g, int... want) {
        for (int p = 0; p < want.length; p++) {
            DUE.is(what + ": what point " + p + " is", g.told(0, p, 4), want[p]);
        }
    }

    private static void roundsAre(String what, RayGround g, int... want) {
        for (int p = 0; p < want.length; p++) {
            DUE.is(what + ": round of point " + p, g.told(0, p, 6), want[p]);
        }
    }

    private static void handAnswers() {
        RayGround g = new RayGround();
        Due.put(g, 0, 0, 0, 0, 0, 5, 5, 900, 0, 6, 6, 0, 0);
        DUE.is("not by hand", g.hand(0, 1, 1), 0);
        kindsAre("ground by hand", g, 0, 1, 0);
        roundsAre("ground by hand", g, -1, 0, -1);
        DUE.is("ground by hand", g.hand(0, 1, 2), 1);
        kindsAre("high by hand", g, 0, 2, 0);
        roundsAre("high by hand", g, -1, -1, -1);
        DUE.is("high by hand", g.hand(0, 1, 0), 2);
        kindsAre("not any more", g, 0, 0, 0);
        DUE.is("by hand 0", g.told(0, 1, 5), 0);
        DUE.is("again", g.hand(0, 1, 0), 0);
        g.grow(0, 0, 1, 20);
        kindsAre("grown", g, 1, 2, 1);
        roundsAre("grown", g, 0, -1, 1);
        DUE.is("one that was never", g.hand(0, 2, 0), 0);
        kindsAre("it is open", g, 1, 2, 0);
        roundsAre("it is open", g, 0, -1, -1);
        g.grow(0, 0, 1, 20);
        DUE.is("grown ground becomes so by hand", g.hand(0, 2, 1), 0);
        roundsAre("in round 0", g, 0, -1, 0);
        // What is told by hand stays, whatever else is done.
        g.hand(0, 1, 1);
        g.hand(0, 0, 2);
        g.grow(0, 0, 1, 1);
        kindsAre("it stays when grown", g, 2, 1, 1);
        g.roofs(0, 50, 3);
        kindsAre("it stays with roofs", g, 2, 1, 1);
    }

    private static void handRefuses() {
        RayGround g = new RayGround();
        Due.put(g, 0, 0, 0, 0, 0);
        g.hand(0, 0, 1);
        int[][] bad = {{-1, 0, 1}, {2, 0, 1}, {0, -1, 1}, {0, 1, 1}, {0, 0, 3}, {0, 0, -1}, {1, 0, 1},
            {0, Integer.MAX_VALUE, 0}, {0, 0, Integer.MIN_VALUE}};
        for (int[] c : bad) {
            DUE.is("hand bad", g.hand(c[0], c[1], c[2]), -1);
        }
        kindsAre("it stays", g, 1);
    }

    private static void growSeeds() {
        // One of each tile, the first of like ones; what is high by hand is none.
        RayGround g = new RayGround();
        Due.put(g, 0, 1, 1, 50, 0, 14, 14, 40, 0, 14, 1, 40, 0, 30, 1, -5, 0, 17, 14, 7, 0, 40, 40, 0, 0);
        DUE.is("three seeds", g.grow(0, 0, 100, 1), 3);
        kindsAre("seeds", g, 2, 1, 2, 1, 2, 1);
        roundsAre("seeds", g, -1, 0, -1, 0, -1, 0);
        g.hand(0, 1, 2);
        g.hand(0, 3, 2);
        g.hand(0, 5, 2);
        DUE.is("two seeds", g.grow(0, 0, 100, 1), 2);
        kindsAre("the next lowest", g, 2, 2, 1, 2, 1, 2);
        DUE.is("by hand stays", g.told(0, 5, 5), 2);
        g.hand(0, 0, 1);
        DUE.is("a seed by hand beside the lowest", g.grow(0, 0, 100, 1), 3);
        kindsAre("seeds by hand", g, 1, 2, 1, 2, 1, 2);
        // The shift counts: the height is asked, not z.
        RayGround h = new RayGround();
        Due.put(h, 0, 0, 0, 10, 0, 10, 10, 5, 1);
        h.shift(0, 1, 6);
        h.grow(0, 0, 1, 1);
        kindsAre("height", h, 1, 2);
        // One that is ground by hand and lowest is the tile's only seed.
        h.hand(0, 0, 1);
        DUE.is("one seed", h.grow(0, 0, 1, 1), 1);
    }

    private static void growSteps() {
        // Each of a row one further; the last ones too steep.
        RayGround g = new RayGround();
        Due.put(g, 0, 0, 0, 0, 0, 4, 0, 4, 0, 2, 0, 2, 0, 6, 0, 6, 0, 8, 0, 20, 0, 10, 0, 10, 0);
        DUE.is("grown", g.grow(0, 1, 1, 2), 4);
        kindsAre("a row", g, 1, 1, 1, 1, 2, 2);
        roundsAre("a row", g, 0, 2, 1, 3, -1, -1);
        DUE.is("grown further", g.grow(0, 1, 1, 4), 5);
        roundsAre("further", g, 0, 1, 1, 2, -1, 3);
        DUE.is("grown steeper", g.grow(0, 7, 1, 2), 6);
        roundsAre("steeper", g, 0, 2, 1, 3, 4, 5);
        RayGround first = new RayGround();
        Due.put(first, 0, 2, 0, 2, 0, 1, 0, 1, 0, 0, 0, 0, 0);
        DUE.is("the first comes last", first.grow(0, 1, 1, 1), 3);
        roundsAre("the first comes last", first, 2, 1, 0);
        DUE.is("grown less again", g.grow(0, 1, 1, 1), 1);
        kindsAre("less", g, 1, 2, 2, 2, 2, 2);
        // Down counts like up, from a seed of a tile to one of another.
        RayGround h = new RayGround();
        Due.put(h, 0, 15, 0, 100, 0, 14, 0, 105, 0, 16, 0, 50, 0, 17, 0, 47, 0, 17, 1, 40, 0);
        DUE.is("down", h.grow(0, 3, 1, 1), 2);
        DUE.is("down", h.grow(0, 7, 1, 1), 5);
        roundsAre("down", h, 0, 1, 2, 1, 0);
    }

    private static void growBounds() {
        // 3 and 4 make 5: no further than r; 50 over 5 is 10 at most.
        RayGround g = new RayGround();
        Due.put(g, 0, 0, 0, 0, 0, 3, 4, 50, 0);
        DUE.is("just", g.grow(0, 10, 1, 5), 2);
        DUE.is("r is less", g.grow(0, 10, 1, 4), 1);
        DUE.is("a is less", g.grow(0, 9, 1, 5), 1);
        DUE.is("in hundredths", g.grow(0, 100, 10, 5), 2);
        DUE.is("in hundredths, less", g.grow(0, 99, 10, 5), 1);
        DUE.is("times b", g.grow(0, 100, 11, 5), 1);
        // A way that is no whole number: 5 over the root of 2 is more than 3, less than 4.
        RayGround h = new RayGround();
        Due.put(h, 0, 0, 0, 0, 0, 1, 1, 5, 0);
        DUE.is("3", h.grow(0, 3, 1, 2), 1);
        DUE.is("4", h.grow(0, 4, 1, 2), 2);
        DUE.is("the root of 2 is beyond 1", h.grow(0, 100, 1, 1), 1);
        // In one place only like heights grow.
        RayGround k = new RayGround();
        Due.put(k, 0, 7, 7, 3, 0, 7, 7, 3, 1, 7, 7, 4, 0);
        DUE.is("one place", k.grow(0, 100, 1, 20), 2);
        kindsAre("one place", k, 1, 1, 2);
        roundsAre("one place", k, 0, 1, -1);
        // a 0: like heights alone.
        RayGround z = new RayGround();
        Due.put(z, 0, 7, 7, 3, 0, 9, 9, 3, 1, 8, 8, 4, 0);
        DUE.is("a 0", z.grow(0, 0, 100, 20), 2);
        // Numbers beyond an int, when squared.
        RayGround v = new RayGround();
        Due.put(v, 0, 0, 0, -3000, 0, 1, 0, 3000, 1);
        v.shift(0, 0, -1000);
        v.shift(0, 1, 1000);
        DUE.is("far up", v.grow(0, 100, 100, 20), 1);
        DUE.is("far up", v.grow(0, 100, 1, 20), 1);
    }

    private static void growMinds() {
        // High by hand is neither ground nor a way to it.
        RayGround g = new RayGround();
        Due.putRow(g, 0, 0, 0, 0, 10);
        DUE.is("a row", g.grow(0, 0, 1, 1), 10);
        roundsAre("a row", g, 0, 1, 2, 3, 4, 5, 6, 7, 8, 9);
        g.hand(0, 4, 2);
        DUE.is("cut", g.grow(0, 0, 1, 1), 4);
        kindsAre("cut", g, 1, 1, 1, 1, 2, 2, 2, 2, 2, 2);
        g.hand(0, 8, 1);
        DUE.is("from both sides", g.grow(0, 0, 1, 1), 9);
        roundsAre("from both sides", g, 0, 1, 2, 3, -1, 3, 2, 1, 0, 1);
        g.hand(0, 4, 0);
        DUE.is("not cut any more", g.grow(0, 0, 1, 1), 10);
        roundsAre("not cut", g, 0, 1, 2, 3, 4, 3, 2, 1, 0, 1);
        // Roofs are high again.
        RayGround h = new RayGround();
        Due.put(h, 0, 0, 0, 0, 0, 5, 5, 99, 0, 5, 6, 99, 0, 6, 5, 99, 0);
        h.grow(0, 1, 1, 9);
        DUE.is("a roof", h.roofs(0, 0, 3), 1);
        h.grow(0, 1, 1, 9);
        kindsAre("high again", h, 1, 2, 2, 2);
        h.roofs(0, 0, 3);
        DUE.is("ground now", h.grow(0, 100, 1, 9), 4);
        kindsAre("ground now", h, 1, 1, 1, 1);
    }

    private static void growRefuses() {
        RayGround g = new RayGround();
        Due.put(g, 0, 0, 0, 0, 0);
        int[][] bad = {{-1, 1, 1, 1}, {2, 1, 1, 1}, {0, -1, 1, 1}, {0, 101, 1, 1}, {0, 1, 0, 1}, {0, 1, 101, 1},
            {0, 1, 1, 0}, {0, 1, 1, 21}, {0, 1, -5, 1}, {0, 1, 1, -1}, {0, Integer.MAX_VALUE, 1, 1}};
        for (int[] c : bad) {
            DUE.is("grow bad", g.grow(c[0], c[1], c[2], c[3]), -1);
        }
        kindsAre("it stays open", g, 0);
        DUE.is("the least", g.grow(0, 0, 1, 1), 1);
        DUE.is("the most", g.grow(0, 100, 100, 20), 1);
    }

    /** A new object with a low ground point at (63, 63) and high ones. */
    private static RayGround high(int... items) {
        RayGround g = new RayGround();
        Due.put(g, 0, 63, 63, -3000, 0);
        Due.put(g, 0, 0, 0, -3000, 0);
        for (int k = 0; k < items.length; k += 4) {
            Due.put(g, 0, items[k], items[k + 1], items[k + 2], items[k + 3]);
        }
        g.grow(0, 0, 1, 1);
        return g;
    }

    private static void roofsFindTheBest() {
        // Four on z = 100 + x + 2 y, and three off it.
        RayGround g = high(5, 5, 400, 0, 1, 1, 103, 0, 2, 1, 104, 0, 1, 3, 107, 0, 5, 2, 109, 0, 7, 7, 300, 0, 9, 9, 90, 0);
        DUE.is("one roof of four", g.roofs(0, 0, 4), 1);
        kindsAre("a roof of four", g, 1, 1, 2, 3, 3, 3, 3, 2, 2);
        roundsAre("a roof of four", g, 0, 0, -1, -1, -1, -1, -1, -1, -1);
        DUE.is("none of five", g.roofs(0, 0, 5), 0);
        kindsAre("none of five", g, 1, 1, 2, 2, 2, 2, 2, 2, 2);
        // t above or below, by height, not by the way to the plane.
        RayGround h = high(1, 1, 100, 0, 5, 1, 100, 0, 1, 5, 100, 0, 5, 5, 110, 0, 3, 3, 89, 0);
        DUE.is("t 0", h.roofs(0, 0, 3), 1);
        DUE.is("none of four", h.roofs(0, 0, 4), 0);
        RayGround b = high(1, 1, 100, 0, 9, 1, 100, 0, 1, 9, 100, 0, 9, 9, 110, 0);
        DUE.is("four by t 10", b.roofs(0, 10, 4), 1);
        kindsAre("four by t 10", b, 1, 1, 3, 3, 3, 3);
        DUE.is("not by t 9", b.roofs(0, 9, 4), 0);
        kindsAre("not by t 9", b, 1, 1, 2, 2, 2, 2);
        // A steep plane: 30 up for each x; t 2 by height.
        RayGround s = high(1, 1, 30, 0, 5, 1, 150, 0, 1, 5, 30, 0, 4, 4, 122, 0, 4, 5, 123, 0, 2, 2, 63, 0);
        DUE.is("steep", s.roofs(0, 2, 4), 1);
        DUE.is("the heights are asked", s.told(0, 2, 4) + s.told(0, 5, 4), 6);
    }

    private static void roofsOfLikeOnes() {
        // Two planes of three each: the first by the least number.
        RayGround g = high(1, 1, 100, 0, 2, 1, 500, 0, 1, 2, 900, 0, 9, 3, 2000, 0, 14, 13, -999, 0);
        DUE.is("one of three, two are left", g.roofs(0, 0, 3), 1);
        kindsAre("the first three", g, 1, 1, 3, 3, 3, 2, 2);
        // The first three are on a line by x, y: then 0 1 3.
        RayGround h = high(1, 1, 100, 0, 2, 2, 500, 0, 3, 3, 900, 0, 9, 3, 2000, 0, 14, 13, -999, 0);
        DUE.is("no three on a line", h.roofs(0, 0, 3), 1);
        kindsAre("a plane through a line that is straight in height too", h, 1, 1, 3, 3, 3, 3, 2);
        RayGround k = high(1, 1, 100, 0, 2, 2, 500, 0, 3, 3, 901, 0, 9, 3, 2000, 0, 14, 13, -999, 0);
        DUE.is("no three on a line", k.roofs(0, 0, 3), 1);
        kindsAre("0 1 3", k, 1, 1, 3, 3, 2, 3, 2);
        // All on a line: no plane.
        RayGround l = high(1, 1, 100, 0, 2, 2, 100, 0, 3, 3, 100, 0, 4, 4, 100, 0);
        DUE.is("all on a line", l.roofs(0, 50, 3), 0);
        // In one place.
        RayGround o = high(1, 1, 100, 0, 1, 1, 100, 0, 1, 1, 100, 0, 1, 1, 101, 0);
        DUE.is("all in one place", o.roofs(0, 50, 3), 0);
    }

    private static void roofsOneBehindTheOther() {
        // Nine level roofs of four, each far above the other by uneven ways: eight at most.
        int[] items = new int[9 * 16];
        int[] heights = {1000, 400, 2999, -1500, 50, 1777, 2310, -800, -2100};
        for (int roof = 0; roof < 9; roof++) {
            for (int k = 0; k < 4; k++) {
                int at = 16 * roof + 4 * k;
                items[at] = 1 + 6 * roof + k % 2;
                items[at + 1] = 3 + 5 * (roof * roof % 9) + k / 2;
                items[at + 2] = heights[roof];
            }
        }
        RayGround g = new RayGround();
        Due.put(g, 0, items);
        for (int p = 0; p < 36; p++) {
            g.hand(0, p, 0);
        }
        Due.put(g, 0, 0, 0, -3000, 0, 20, 0, -3000, 0, 40, 0, -3000, 0, 60, 0, -3000, 0);
        Due.put(g, 0, 0, 17, -3000, 0, 20, 17, -3000, 0, 40, 17, -3000, 0, 60, 17, -3000, 0);
        Due.put(g, 0, 0, 40, -3000, 0, 20, 40, -3000, 0, 40, 40, -3000, 0, 60, 40, -3000, 0);
        DUE.is("the low ones", g.grow(0, 0, 1, 1), 12);
        DUE.is("eight roofs", g.roofs(0, 0, 4), 8);
        for (int p = 0; p < 36; p++) {
            int roof = p / 4;
            DUE.is("of roof " + roof, g.told(0, p, 4), roof == 8 ? 2 : 3 + roof);
        }
        for (int what = 3; what <= 10; what++) {
            DUE.is("count of a roof", g.count(0, what), 4);
        }
        DUE.is("count of high", g.count(0, 2), 4);
        // Those that are left behind a first roof are looked at with places and heights of their own.
        RayGround left = high(3, 7, 10, 0, 11, 6, 575, 0, 4, 3, 10, 0, 6, 7, 10, 0, 13, 2, 553, 0, 9, 9, 590, 0,
            7, 3, 10, 0, 14, 5, 900, 0, 2, 5, 10, 0, 12, 12, 620, 0);
        DUE.is("two roofs", left.roofs(0, 0, 4), 2);
        kindsAre("the second of what is left", left, 1, 1, 3, 4, 3, 3, 4, 4, 3, 2, 3, 4);
        // The larger comes first, wherever its points are.
        RayGround h = high(1, 1, 100, 0, 2, 1, 100, 0, 1, 2, 100, 0, 10, 1, 700, 0, 12, 2, 700, 0, 8, 5, 700, 0, 13, 6, 700, 0);
        DUE.is("two roofs", h.roofs(0, 0, 3), 2);
        kindsAre("the larger first", h, 1, 1, 4, 4, 4, 3, 3, 3, 3);
        DUE.is("one roof", h.roofs(0, 0, 4), 1);
        kindsAre("the larger alone", h, 1, 1, 2, 2, 2, 3, 3, 3, 3);
    }

    private static void roofsOfMarks() {
        // Open points are no high ones; nor are those by hand.
        RayGround g = new RayGround();
        Due.put(g, 0, 1, 1, 0, 0, 2, 1, 0, 0, 1, 2, 0, 0, 2, 2, 0, 0);
        DUE.is("open", g.roofs(0, 0, 3), 0);
        kindsAre("open", g, 0, 0, 0, 0);
        for (int p = 0; p < 4; p++) {
            g.hand(0, p, 2);
        }
        DUE.is("high by hand", g.roofs(0, 0, 3), 0);
        kindsAre("high by hand", g, 2, 2, 2, 2);
        // Roofs whose strip has been shifted are found anew by their heights.
        RayGround h = high(1, 1, 100, 0, 5, 1, 100, 0, 1, 5, 100, 0, 5, 5, 100, 1, 3, 1, 200, 1);
        h.roofs(0, 0, 4);
        kindsAre("a roof of four", h, 1, 1, 3, 3, 3, 3, 2);
        h.shift(0, 1, -100);
        kindsAre("a shift changes no kind", h, 1, 1, 3, 3, 3, 3, 2);
        h.roofs(0, 0, 4);
        kindsAre("by height", h, 1, 1, 3, 3, 3, 2, 3);
        // One of a roof that is told by hand is not of it any more.
        h.hand(0, 2, 2);
        DUE.is("of three now", h.roofs(0, 0, 3), 1);
        kindsAre("without it", h, 1, 1, 2, 3, 3, 3, 2);
        h.hand(0, 2, 0);
        h.roofs(0, 0, 3);
        kindsAre("open", h, 1, 1, 0, 3, 3, 3, 2);
    }

    private static void roofsFull() {
        RayGround g = new RayGround();
        Due.put(g, 0, 0, 0, -3000, 0);
        for (int k = 0; k < 5; k++) {
            Due.putRow(g, 0, 2 + 2 * k, 2, 7, 8);
        }
        DUE.is("grown", g.grow(0, 0, 1, 1), 1);
        DUE.is("40 are not too many", g.roofs(0, 0, 40), 1);
        DUE.is("all 40", g.count(0, 3), 40);
        Due.put(g, 0, 14, 14, 2000, 0);
        DUE.is("an open one counts for nothing", g.roofs(0, 1, 40), 1);
        g.grow(0, 0, 1, 1);
        DUE.is("41", g.roofs(0, 1, 3), -3);
        DUE.is("all high", g.count(0, 2), 41);
        g.hand(0, 41, 2);
        DUE.is("by hand counts for nothing", g.roofs(0, 1, 3), 1);
        DUE.is("a roof of 40", g.count(0, 3), 40);
        DUE.is("and one by hand", g.count(0, 2), 1);
        // Those of roofs count too, and stay, where it is full.
        Due.put(g, 0, 15, 15, 2000, 0);
        g.hand(0, 41, 0);
        g.hand(0, 42, 1);
        g.grow(0, 0, 1, 1);
        g.hand(0, 1, 2);
        DUE.is("39 and one", g.roofs(0, 0, 39), 1);
        DUE.is("39 of a roof", g.count(0, 3), 39);
        DUE.is("bad ahead of full", g.roofs(0, 51, 3), -1);
        DUE.is("39 of a roof stay", g.count(0, 3), 39);
    }

    // The first point counts like any other.
    private static void roofsFullFromTheFirst() {
        RayGround g = new RayGround();
        for (int k = 0; k < 5; k++) {
            Due.putRow(g, 0, 2 + 2 * k, 2, 7, 8);
        }
        Due.put(g, 0, 14, 14, 7, 0, 0, 0, -3000, 0);
        DUE.is("grown", g.grow(0, 0, 1, 1), 1);
        DUE.is("41", g.roofs(0, 1, 3), -3);
        g.hand(0, 20, 2);
        DUE.is("40", g.roofs(0, 0, 40), 1);
        kindsAre("the first", g, 3);
    }

    private static void roofsRefuse() {
        RayGround g = high(1, 1, 100, 0, 2, 1, 100, 0, 1, 2, 100, 0);
        g.roofs(0, 0, 3);
        int[][] bad = {{-1, 1, 3}, {2, 1, 3}, {0, -1, 3}, {0, 51, 3}, {0, 1, 2}, {0, 1, 41}, {0, 1, -3},
            {0, Integer.MIN_VALUE, 3}, {0, 1, Integer.MAX_VALUE}};
        for (int[] c : bad) {
            DUE.is("roofs bad", g.roofs(c[0], c[1], c[2]), -1);
        }
        kindsAre("it stays", g, 1, 1, 3, 3, 3);
        DUE.is("of 40", g.roofs(0, 50, 40), 0);
    }

    private static void countAnswers() {
        RayGround g = high(1, 1, 100, 0, 2, 1, 100, 0, 1, 2, 100, 0, 40, 40, 5, 0);
        g.hand(0, 2, 2);
        Due.put(g, 0, 50, 50, 0, 0, 51, 51, 0, 0);
        g.lose(0, 1);
        g.lose(0, 2);
        DUE.is("open", g.count(0, 0), 2);
        DUE.is("ground", g.count(0, 1), 3);
        DUE.is("high, by hand too", g.count(0, 2), 3);
        DUE.is("of a roof", g.count(0, 3), 0);
        DUE.is("all", g.count(0, 11), 8);
        DUE.is("lost", g.count(0, 12), 2);
        DUE.is("squares", g.count(0, 13), 3);
        g.hand(0, 6, 1);
        g.hand(0, 7, 1);
        DUE.is("two in one square", g.count(0, 13), 4);
        DUE.is("the other year", g.count(1, 11), 0);
        int[][] bad = {{-1, 0}, {2, 0}, {0, -1}, {0, 14}, {0, Integer.MAX_VALUE}, {0, Integer.MIN_VALUE}};
        for (int[] c : bad) {
            DUE.is("count bad", g.count(c[0], c[1]), -1);
        }
    }
}
