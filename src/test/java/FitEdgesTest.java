/** Promises 11 and 12, edge by edge: halves, the ends of shifts, each reason of NOT, no points and 100. */
final class FitEdgesTest {
    private static final Due DUE = new Due("FitEdgesTest");
    private static final Refused REFUSED = new Refused(DUE);
    private static final int NOT = -2;

    public static void main(String[] args) {
        fitOfNone();
        fitOfOnePoint();
        fitOfStripZeroAlone();
        fitOfStripsWithoutPoints();
        shiftOfStripZeroBecomesZero();
        aHalfGoesUp();
        lessAndMoreThanAHalf();
        halvesOfEachStrip();
        endsOfEachStrip();
        oneOfThreeIsBeyond();
        stripZeroHasNoPoints();
        moreThanOneChoice();
        pairsOfOneSquareAlone();
        pairsOfUnlikeStripsAlone();
        fitMindsNoShiftsThereAre();
        fitBehindTheOtherYear();
        fitFromAnyFirstPoint();
        fitOfAHundred();
        leftOverOfNone();
        leftOverAtItsMost();
        leftOverMindsAllShifts();
        leftOverOfLikeStrips();
        fitIsLeast();
        DUE.end();
    }

    private static void shiftsAre(String what, RayGround g, int year, int... want) {
        for (int strip = 0; strip < 4; strip++) {
            int was = g.shift(year, strip, 0);
            g.shift(year, strip, was);
            DUE.is(what + ": shift of strip " + strip, was, want[strip]);
        }
    }

    private static void fitOfNone() {
        for (int year = 0; year < 2; year++) {
            int asked = year;
            REFUSED.is("fit of no points", RayGround::new, NOT, g -> g.fit(asked));
        }
    }

    private static void fitOfOnePoint() {
        for (int strip = 0; strip < 4; strip++) {
            RayGround g = new RayGround();
            Due.put(g, 0, 0, 0, 5, strip);
            DUE.is("fit of one point, of strip " + strip, g.fit(0), strip == 0 ? 1 : NOT);
        }
    }

    private static void fitOfStripZeroAlone() {
        RayGround g = Scene.full();
        for (int strip = 0; strip < 4; strip++) {
            g.shift(0, strip, 7);
        }
        DUE.is("strip 0 alone, 100 points", g.fit(0), 1);
        shiftsAre("strip 0 alone", g, 0, 0, 0, 0, 0);
    }

    private static void fitOfStripsWithoutPoints() {
        for (int without = 1; without < 4; without++) {
            RayGround g = new RayGround();
            int[] want = new int[4];
            for (int strip = 0; strip < 4; strip++) {
                g.shift(0, strip, 500);
                if (strip != without) {
                    Due.put(g, 0, 0, 0, 10 * strip, strip);
                    want[strip] = -10 * strip;
                }
            }
            DUE.is("strip " + without + " has no points", g.fit(0), 1);
            shiftsAre("strip " + without + " has none", g, 0, want);
        }
    }

    private static void shiftOfStripZeroBecomesZero() {
        RayGround g = new RayGround();
        Due.put(g, 1, 0, 0, 5, 0, 0, 0, 9, 1);
        g.shift(1, 0, -1000);
        g.shift(0, 0, -1000);
        DUE.is("strip 0: fit", g.fit(1), 1);
        shiftsAre("strip 0", g, 1, 0, -4, 0, 0);
        shiftsAre("the other year's", g, 0, -1000, 0, 0, 0);
    }

    /** Points of strip 0 of some heights and one of a strip of height 0: its shift is their mean. */
    private static RayGround mean(int strip, int... heights) {
        RayGround g = new RayGround();
        for (int z : heights) {
            Due.put(g, 0, 4, 4, z, 0);
        }
        Due.put(g, 0, 7, 7, 0, strip);
        return g;
    }

    private static void aHalfGoesUp() {
        int[][] cases = {{0, 1, 1}, {0, -1, 0}, {1, 2, 2}, {-1, -2, -1}, {2, 3, 3}, {-2, -3, -2}, {999, 1000, 1000},
            {-999, -1000, -999}, {-1000, -1001, -1000}, {0, 0, 0}, {-1, 0, 0}, {3, -2, 1}, {-3, 2, 0}};
        for (int[] c : cases) {
            RayGround g = mean(1, c[0], c[1]);
            DUE.is("a half: fit", g.fit(0), 1);
            shiftsAre("a half of " + (c[0] + c[1]), g, 0, 0, c[2], 0, 0);
        }
    }

    private static void lessAndMoreThanAHalf() {
        int[][] cases = {{0, 0, 1, 0}, {0, 1, 1, 1}, {0, 0, -1, 0}, {0, -1, -1, -1}, {1, 1, 2, 1}, {-1, -2, -2, -2}};
        for (int[] c : cases) {
            RayGround g = mean(2, c[0], c[1], c[2]);
            DUE.is("thirds: fit", g.fit(0), 1);
            shiftsAre("thirds of " + (c[0] + c[1] + c[2]), g, 0, 0, 0, c[3], 0);
        }
        // 49 and 50 of 99 points, 1 above the others.
        for (int above = 49; above <= 50; above++) {
            RayGround g = new RayGround();
            Due.putRow(g, 0, 0, 0, 0, 1);
            g.sheet(0, 0, 40);
            for (int i = 2; i < 40; i += 4) {
                g.item(0, 0, i, i / 4 < 5 ? 1 : 0);
            }
            for (int k = 0; k < 9; k++) {
                g.points(0, 0, 0, 0, 10);
            }
            // 45 of 90 are 1 above, and the first is not: 8 more.
            int more = above - 45;
            g.points(0, 0, 0, 0, more);
            g.points(0, 0, 0, 20, 8 - more);
            Due.put(g, 0, 0, 0, 0, 3);
            DUE.is("49 or 50 of 99: fit", g.fit(0), 1);
            shiftsAre("49 or 50 of 99", g, 0, 0, 0, 0, above == 50 ? 1 : 0);
        }
    }

    private static void halvesOfEachStrip() {
        RayGround g = new RayGround();
        for (int strip = 1; strip < 4; strip++) {
            Due.put(g, 0, 8 * strip, 0, -2, 0, 8 * strip, 0, 1, 0, 8 * strip, 0, strip, strip);
        }
        DUE.is("halves of three: fit", g.fit(0), 1);
        shiftsAre("halves of three, -1.5, -2.5, -3.5", g, 0, 0, -1, -2, -3);
    }

    private static void endsOfEachStrip() {
        for (int strip = 1; strip < 4; strip++) {
            for (int sign = -1; sign <= 1; sign += 2) {
                RayGround g = mean(strip, sign * 1000);
                DUE.is("an end: fit", g.fit(0), 1);
                DUE.is("an end: the shift", g.shift(0, strip, 0), sign * 1000);
                int asked = strip;
                int by = sign * 1001;
                REFUSED.is("beyond an end", () -> mean(asked, by), NOT, h -> h.fit(0));
                REFUSED.is("far beyond an end", () -> mean(asked, 3 * by - 3 * Integer.signum(by)), NOT,
                    h -> h.fit(0));
            }
            int asked = strip;
            REFUSED.is("half beyond the upper end", () -> mean(asked, 1000, 1001), NOT, g -> g.fit(0));
            DUE.is("half beyond the lower end is the end", mean(strip, -1000, -1001).fit(0), 1);
        }
    }

    private static void oneOfThreeIsBeyond() {
        for (int beyond = 1; beyond < 4; beyond++) {
            int asked = beyond;
            REFUSED.is("strip " + beyond + " of three is beyond", () -> {
                RayGround g = new RayGround();
                for (int strip = 0; strip < 4; strip++) {
                    Due.put(g, 0, 0, 0, strip == asked ? 1400 : strip, strip);
                    g.shift(0, strip, 11 * strip);
                }
                return g;
            }, NOT, g -> g.fit(0));
        }
    }

    private static void stripZeroHasNoPoints() {
        REFUSED.is("strip 0 has none", () -> {
            RayGround g = new RayGround();
            Due.put(g, 0, 0, 0, 1, 1, 0, 0, 2, 2, 0, 0, 3, 3);
            Due.put(g, 1, 0, 0, 1, 0);
            g.shift(0, 2, 5);
            return g;
        }, NOT, g -> g.fit(0));
        REFUSED.is("those of strip 0 went", () -> {
            RayGround g = new RayGround();
            Due.put(g, 0, 0, 0, 1, 1, 0, 0, 2, 2, 20, 0, 3, 0);
            g.lose(0, 1);
            return g;
        }, NOT, g -> g.fit(0));
    }

    private static void moreThanOneChoice() {
        for (int loose = 1; loose < 4; loose++) {
            int asked = loose;
            REFUSED.is("strip " + loose + " hangs with none", () -> {
                RayGround g = new RayGround();
                for (int strip = 0; strip < 4; strip++) {
                    Due.put(g, 0, strip == asked ? 40 : 0, 0, strip, strip);
                    g.shift(0, strip, 3);
                }
                return g;
            }, NOT, g -> g.fit(0));
            REFUSED.is("all but strip " + loose + " hang together without strip 0", () -> {
                RayGround g = new RayGround();
                for (int strip = 0; strip < 4; strip++) {
                    Due.put(g, 0, strip == 0 || strip == asked ? 0 : 40, 0, strip, strip);
                    g.shift(0, strip, 3);
                }
                return g;
            }, NOT, g -> g.fit(0));
        }
        REFUSED.is("three hang together without strip 0", () -> {
            RayGround g = new RayGround();
            Due.put(g, 0, 0, 0, 1, 0, 4, 0, 1, 1, 4, 0, 1, 2, 4, 0, 1, 3);
            return g;
        }, NOT, g -> g.fit(0));
    }

    private static void pairsOfOneSquareAlone() {
        int[][] places = {{3, 3, 1}, {0, 0, 1}, {4, 0, 0}, {0, 4, 0}, {3, 4, 0}, {4, 3, 0}};
        for (int[] p : places) {
            RayGround g = new RayGround();
            Due.put(g, 0, 1, 2, 0, 0, p[0], p[1], 7, 1);
            DUE.is("one square: fit", g.fit(0), p[2] == 1 ? 1 : NOT);
            DUE.is("one square: left over", g.leftOver(0), 0);
            g.shift(0, 1, 0);
            DUE.is("one square: left over with no shift", g.leftOver(0), p[2] == 1 ? 49 : 0);
        }
    }

    private static void pairsOfUnlikeStripsAlone() {
        RayGround g = new RayGround();
        Due.put(g, 0, 0, 0, 0, 0, 0, 0, 900, 0, 0, 0, 450, 1, 0, 0, -450, 1);
        DUE.is("unlike strips: fit", g.fit(0), 1);
        shiftsAre("unlike strips", g, 0, 0, 450, 0, 0);
        DUE.is("unlike strips: left over", g.leftOver(0), 900L * 900 * 2);
    }

    private static void fitMindsNoShiftsThereAre() {
        RayGround g = mean(1, 10, 20);
        for (int before = -1000; before <= 1000; before += 500) {
            g.shift(0, 1, before);
            g.shift(0, 0, -before);
            DUE.is("whatever shifts: fit", g.fit(0), 1);
            shiftsAre("whatever shifts", g, 0, 0, 15, 0, 0);
        }
    }

    // What strips one year has points of is nothing to the other one, nor what it had once.
    private static void fitBehindTheOtherYear() {
        RayGround g = new RayGround();
        Due.put(g, 1, 0, 0, 5, 0, 0, 0, 6, 1, 0, 0, 7, 2, 0, 0, 8, 3);
        DUE.is("the other year: fit", g.fit(1), 1);
        DUE.is("the other year: of no points", g.fit(0), NOT);
        Due.put(g, 0, 0, 0, 5, 0);
        DUE.is("the other year: of strip 0 alone", g.fit(0), 1);
        g.lose(1, 0);
        DUE.is("the other year: all went", g.fit(1), NOT);
    }

    private static void fitFromAnyFirstPoint() {
        for (int first = 0; first < 4; first++) {
            RayGround g = new RayGround();
            int[] want = new int[4];
            for (int k = 0; k < 4; k++) {
                int strip = (first + k) % 4;
                Due.put(g, 0, 0, 0, 7 * strip * strip, strip);
                want[strip] = -7 * strip * strip;
            }
            Due.put(g, 0, 1, 1, 0, 0);
            DUE.is("any first point: fit", g.fit(0), 1);
            shiftsAre("any first point", g, 0, want);
            DUE.is("any first point: nothing is left over", g.leftOver(0), 0);
        }
    }

    // 25 points of each strip in one square.
    private static void fitOfAHundred() {
        RayGround g = new RayGround();
        int[] z = {-2000, -1000, -3000, -2001};
        g.sheet(0, 1, 40);
        for (int strip = 0; strip < 4; strip++) {
            for (int k = 0; k < 10; k++) {
                g.item(0, 1, 4 * k + 2, z[strip]);
                g.item(0, 1, 4 * k + 3, strip);
            }
            g.points(0, 0, 1, 0, 10);
            g.points(0, 0, 1, 0, 10);
            g.points(0, 0, 1, 0, 5);
        }
        DUE.is("100 points: left over", g.leftOver(0), 625L * (1000 * 1000 * 2 + 1 + 2000 * 2000 + 1001 * 1001 + 999 * 999));
        DUE.is("100 points: fit", g.fit(0), 1);
        DUE.is("100 points: nothing is left over", g.leftOver(0), 0);
        shiftsAre("100 points", g, 0, 0, -1000, 1000, 1);
    }

    private static void leftOverOfNone() {
        RayGround g = new RayGround();
        DUE.is("left over of no points", g.leftOver(0), 0);
        g.shift(0, 0, 1000);
        DUE.is("left over of no points, with a shift", g.leftOver(0), 0);
        Due.put(g, 0, 0, 0, 3000, 0);
        DUE.is("left over of one point", g.leftOver(0), 0);
        Due.put(g, 0, 0, 0, 3000, 1);
        DUE.is("left over of two", g.leftOver(0), 1000 * 1000);
        DUE.is("left over of the other year", g.leftOver(1), 0);
    }

    private static void leftOverAtItsMost() {
        RayGround g = new RayGround();
        g.sheet(0, 1, 40);
        for (int strip = 0; strip < 2; strip++) {
            for (int k = 0; k < 10; k++) {
                g.item(0, 1, 4 * k + 2, strip == 0 ? 3000 : -3000);
                g.item(0, 1, 4 * k + 3, 3 * strip);
            }
            for (int k = 0; k < 5; k++) {
                g.points(1, 0, 1, 0, 10);
            }
        }
        DUE.is("left over: without shifts", g.leftOver(1), 2500L * 6000 * 6000);
        g.shift(1, 0, 1000);
        g.shift(1, 3, -1000);
        DUE.is("left over at its most", g.leftOver(1), 2500L * 8000 * 8000);
        DUE.is("6000 apart", g.fit(1), NOT);
    }

    private static void leftOverMindsAllShifts() {
        for (int strip = 0; strip < 4; strip++) {
            RayGround g = new RayGround();
            for (int other = 0; other < 4; other++) {
                Due.put(g, 0, 0, 0, 5, other);
            }
            DUE.is("all shifts: of like heights", g.leftOver(0), 0);
            g.shift(0, strip, -10);
            DUE.is("all shifts: of strip " + strip, g.leftOver(0), 300);
        }
    }

    private static void leftOverOfLikeStrips() {
        for (int strip = 0; strip < 4; strip++) {
            RayGround g = new RayGround();
            Due.put(g, 0, 0, 0, 5, strip, 0, 0, 500, strip, 3, 3, -500, strip);
            DUE.is("like strips are no pairs", g.leftOver(0), 0);
        }
    }

    // One more or less of any shift leaves as much over, or more; here the shifts are whole, so that they are least.
    private static void fitIsLeast() {
        RayGround g = new RayGround();
        Due.put(g, 0, 0, 0, 10, 0, 0, 0, 14, 1, 1, 1, 40, 2, 2, 2, 70, 3);
        Due.put(g, 0, 8, 0, 16, 0, 8, 0, 12, 1, 9, 1, 48, 2, 9, 2, 66, 3);
        DUE.is("least: fit", g.fit(0), 1);
        shiftsAre("least", g, 0, 0, 0, -31, -55);
        long least = g.leftOver(0);
        for (int strip = 1; strip < 4; strip++) {
            int was = g.shift(0, strip, 0);
            g.shift(0, strip, was + 1);
            DUE.holds("one more is not less", g.leftOver(0) > least);
            g.shift(0, strip, was - 1);
            DUE.holds("one less is not less", g.leftOver(0) > least);
            g.shift(0, strip, was);
        }
    }
}
