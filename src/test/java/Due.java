/** Compares answers with what is due, and tells at the end how many were wrong. */
final class Due {
    private final String name;
    private int asked = 0;
    private int wrong = 0;

    Due(String name) {
        this.name = name;
    }

    void is(String call, long got, long want) {
        asked++;
        if (got != want) {
            wrong++;
            System.out.println(name + ": " + call + " answered " + got + ", due is " + want);
        }
    }

    void holds(String what, boolean holding) {
        is(what, holding ? 1 : 0, 1);
    }

    int wrongSoFar() {
        return wrong;
    }

    void end() {
        System.out.println(name + ": " + asked + " answers, " + wrong + " wrong");
        if (wrong != 0 || asked == 0) {
            System.exit(1);
        }
    }

    /** Brings points (x, y, z, strip each) to a year by way of sheet 3; answers what the last call answered. */
    static int put(RayGround ground, int year, int... items) {
        int last = 0;
        for (int from = 0; from < items.length; from += 40) {
            int n = Math.min(40, items.length - from);
            ground.sheet(3, 2, n);
            for (int i = 0; i < n; i++) {
                ground.item(3, 2, i, items[from + i]);
            }
            last = ground.points(year, 3, 2, 0, n / 4);
        }
        return last;
    }

    /** As many points as may be of one place, one beside the other along y from (x, y) on, all of height z. */
    static int putRow(RayGround ground, int year, int x, int y, int z, int n) {
        int[] items = new int[4 * n];
        for (int k = 0; k < n; k++) {
            items[4 * k] = x;
            items[4 * k + 1] = y + k;
            items[4 * k + 2] = z;
        }
        return put(ground, year, items);
    }

    /** Types a text, in words of eight bytes; answers what the last call answered. */
    static int typeText(RayGround ground, String text) {
        int last = 0;
        for (int from = 0; from < text.length(); from += 8) {
            int n = Math.min(8, text.length() - from);
            long w = 0;
            for (int k = 0; k < n; k++) {
                w = w << 8 | text.charAt(from + k);
            }
            last = ground.type(w, n);
        }
        return last;
    }

    static int jobOf(RayGround ground, int year, String text) {
        typeText(ground, text);
        return ground.job(year);
    }
}
