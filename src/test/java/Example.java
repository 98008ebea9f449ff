/** How RayGround is called. README.md shows this file, and what it prints. */
final class Example {
    public static void main(String[] args) {
        RayGround ground = new RayGround();
        // Five points: x, y, z, strip of each.
        int[] row = {1, 1, 100, 0, 5, 1, 101, 0, 1, 5, 102, 1, 5, 5, 103, 0, 5, 6, 104, 1};
        ground.sheet(0, 2, row.length);
        for (int i = 0; i < row.length; i++) {
            ground.item(0, 2, i, row[i]);
        }
        System.out.println("points: " + ground.points(0, 0, 2, 0, 5));

        type(ground, "F; G 3 1 8");
        System.out.println("steps done: " + ground.job(0));
        System.out.println("height of point 2: " + ground.told(0, 2, 2));
        System.out.println("on the ground: " + ground.count(0, 1));
        System.out.println("square (1, 1): " + ground.grid(0, 1, 1));
        System.out.println("thirds: " + ground.thirds(0));
        System.out.println("volume above 100: " + ground.volume(0, 100));

        // A refusal is an answer, too.
        if (ground.lose(0, 16) == RayGround.BAD) {
            System.out.println("there is no tile 16");
        }
        type(ground, "F; G 3 1 x");
        System.out.println("byte that can't stand there: " + (-20 - ground.job(0)));
    }

    /** A text comes to the tape in words of eight bytes, the first byte of each being its highest. */
    private static void type(RayGround ground, String text) {
        for (int from = 0; from < text.length(); from += 8) {
            int n = Math.min(8, text.length() - from);
            long word = 0;
            for (int k = 0; k < n; k++) {
                word = word << 8 | text.charAt(from + k);
            }
            ground.type(word, n);
        }
    }
}
