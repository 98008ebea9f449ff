/** States to begin from. In all of them tile 15 of year 1 is not lost, as Look asks. */
final class Scene {
    private Scene() {
    }

    /**
     * Points of all kinds, shifts, tiles that are lost, rows of all lanes, a tape. Year 0: point 0 a seed, 1 grown
     * from it, 2 by hand ground, 3 by hand high, 4 to 7 of a roof, 8 high, 9 open; tile 5 lost. Year 1: a seed in each
     * of four squares that are neighbours, one open; tile 6 lost. Sheet 0 has 8 bytes, 1 has 40 shorts, 2 has 12 ints,
     * 3 holds nothing. The tape has 13 bytes.
     */
    static RayGround rich() {
        RayGround g = new RayGround();
        Due.put(g, 0, 0, 0, 0, 0, 2, 0, 3, 1, 9, 0, 70, 2, 9, 9, 2, 3,
            1, 4, 100, 0, 5, 4, 100, 0, 1, 8, 100, 0, 5, 8, 100, 0, 15, 15, 900, 0);
        g.shift(0, 1, 1);
        g.shift(0, 2, -7);
        g.shift(0, 3, 20);
        g.hand(0, 2, 1);
        g.hand(0, 3, 2);
        g.grow(0, 2, 1, 3);
        g.roofs(0, 0, 4);
        g.lose(0, 5);
        Due.put(g, 0, 60, 2, 5, 1);
        Due.put(g, 1, 15, 15, 10, 0, 16, 15, 20, 0, 15, 16, 30, 0, 16, 16, 40, 0);
        g.grow(1, 0, 1, 1);
        g.lose(1, 6);
        g.shift(1, 0, 4);
        Due.put(g, 1, 40, 2, 5, 1);
        rows(g);
        Due.typeText(g, "G 9 1 9;R 0 3");
        return g;
    }

    private static void rows(RayGround g) {
        int[] sizes = {8, 40, 12};
        for (int sheet = 0; sheet < 3; sheet++) {
            g.sheet(sheet, sheet, sizes[sheet]);
            for (int i = 0; i < sizes[sheet]; i++) {
                g.item(sheet, sheet, i, i % 4 == 3 ? i % 3 : 1 + i);
            }
        }
        g.drop(3);
    }

    /** Year 0 has 100 points, in tile 0, all of them open; rows of 40 zeros in sheets 0 to 2; the tape has 80 bytes. */
    static RayGround full() {
        RayGround g = new RayGround();
        for (int lane = 0; lane < 3; lane++) {
            g.sheet(lane, lane, 40);
        }
        for (int k = 0; k < 10; k++) {
            g.points(0, 0, 0, 0, 10);
        }
        Due.typeText(g, "G 1 1 1" + " ".repeat(73));
        return g;
    }

    /** Year 0 has n points that are high, all of height 7 in a field, and a low one, the last, that is ground. */
    static RayGround high(int n) {
        RayGround g = new RayGround();
        for (int k = 0; k < n; k += 8) {
            Due.putRow(g, 0, 2 + k / 4, 2, 7, Math.min(8, n - k));
        }
        Due.put(g, 0, 0, 0, -3000, 0);
        g.grow(0, 0, 1, 1);
        return g;
    }

    /** Ground in w by h squares from (0, 0) on, one point each, all of height z. */
    static void field(RayGround g, int year, int w, int h, int z) {
        int[] items = new int[4 * w * h];
        for (int k = 0; k < w * h; k++) {
            items[4 * k] = 4 * (k % w);
            items[4 * k + 1] = 4 * (k / w);
            items[4 * k + 2] = z;
        }
        Due.put(g, year, items);
        g.grow(year, 0, 1, 4);
    }
}
