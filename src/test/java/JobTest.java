/** Promises 22 and 23: type, job. */
final class JobTest {
    private static final Due DUE = new Due("JobTest");

    public static void main(String[] args) {
        typeAnswers();
        typeRefuses();
        faults();
        longTexts();
        jobsAreDone();
        jobsStop();
        theTape();
        DUE.end();
    }

    private static void typeAnswers() {
        RayGround g = new RayGround();
        // The highest of the n lowest bytes comes first; those above count for nothing.
        DUE.is("three of eight", g.type(0x00ff0aff0a473120L, 3), 3);
        DUE.is("two more", g.type(0x3220L, 2), 5);
        DUE.is("one more", g.type('3', 1), 6);
        Due.put(g, 0, 0, 0, 0, 0);
        DUE.is("G1 2 3", g.job(0), 1);
        DUE.is("empty again", g.type(0x7e7e7e7e7e7e7e7eL, 8), 8);
        DUE.is("to 126", g.job(0), -20);
        DUE.is("from 32", g.type(0x2020202020202020L, 8), 8);
        DUE.is("blanks", g.job(0), -28);
    }

    private static void typeRefuses() {
        RayGround g = new RayGround();
        DUE.is("n 0", g.type('F', 0), -1);
        DUE.is("n 9", g.type(0x4646464646464646L, 9), -1);
        DUE.is("n -1", g.type('F', -1), -1);
        DUE.is("n most", g.type('F', Integer.MAX_VALUE), -1);
        DUE.is("n least", g.type('F', Integer.MIN_VALUE), -1);
        DUE.is("byte 31", g.type(31, 1), -1);
        DUE.is("byte 127", g.type(127, 1), -1);
        DUE.is("byte 255", g.type(255, 1), -1);
        DUE.is("the highest byte", g.type(0x8646464646464646L, 8), -1);
        DUE.is("the lowest byte", g.type(0x4646464646464600L, 8), -1);
        DUE.is("one within", g.type(0x4646461f46464646L, 8), -1);
        DUE.is("a byte above", g.type('F', 2), -1);
        DUE.is("nothing came", g.type('F', 1), 1);
        for (int k = 0; k < 9; k++) {
            g.type(0x2020202020202020L, 8);
        }
        DUE.is("eight are too many", g.type(0x2020202020202020L, 8), -3);
        DUE.is("bad ahead of full", g.type(0x2020202020202000L, 8), -1);
        DUE.is("seven are not", g.type(0x2020202020202020L, 7), 80);
        DUE.is("full", g.type(' ', 1), -3);
        DUE.is("bad ahead of full", g.type(' ', 0), -1);
        DUE.is("F and blanks", g.job(0), 0);
        DUE.is("room again", g.type(' ', 1), 1);
    }

    private static void faults() {
        faultIs("", 0);
        faultIs(" ", 1);
        faultIs("   ", 3);
        faultIs(";", 0);
        faultIs("  ;", 2);
        faultIs("f", 0);
        faultIs("X", 0);
        faultIs("1", 0);
        faultIs("  X", 2);
        faultIs("F;", 2);
        faultIs("F ; ", 4);
        faultIs("F;;F", 2);
        faultIs("F; ;F", 3);
        faultIs("FF", 1);
        faultIs("F F", 2);
        faultIs("F1", 1);
        faultIs("F  1", 3);
        faultIs("F,F", 1);
        faultIs("F;X", 2);
        faultIs("G", 1);
        faultIs("G ", 2);
        faultIs("G;", 1);
        faultIs("G ;", 2);
        faultIs("G 1", 3);
        faultIs("G 1 ", 4);
        faultIs("G 12 13", 7);
        faultIs("G 1 2;F", 5);
        faultIs("G 1 2 ;F", 6);
        faultIs("G 1 2 x", 6);
        faultIs("G 1,2 3", 3);
        faultIs("G 1-2 3", 3);
        faultIs("G -1 2 3", 2);
        faultIs("G +1 2 3", 2);
        faultIs("G 1 2 3 4", 8);
        faultIs("G 1 2 3F", 7);
        faultIs("G 1 2 3 ; ", 10);
        faultIs("G 101 1 1", 2);
        faultIs("G 1 0 1", 4);
        faultIs("G 1 101 1", 4);
        faultIs("G 1 1 0", 6);
        faultIs("G 1 1 21", 6);
        faultIs("G 00001 1 1", 2);
        faultIs("G 1 1 00001", 6);
        faultIs("G 9999999999999999999 1 1", 2);
        faultIs("G 1 4294967297 1", 4);
        faultIs("G   1   0   x", 8);
        faultIs("G 101x", 2);
        faultIs("G 100x", 5);
        faultIs("R", 1);
        faultIs("R 1", 3);
        faultIs("R1;", 2);
        faultIs("R 1 2", 4);
        faultIs("R 1 41", 4);
        faultIs("R 51 3", 2);
        faultIs("R 51 2", 2);
        faultIs("R 12345 3", 2);
        faultIs("R 1 3 3", 6);
        faultIs("R 1 3;R 1 2", 10);
        faultIs("r 1 3", 0);
    }

    // A fault does nothing, and the tape is empty then.
    private static void faultIs(String text, int place) {
        RayGround g = new RayGround();
        Due.put(g, 0, 0, 0, 0, 0);
        Due.typeText(g, text);
        DUE.is("\"" + text + "\"", g.job(0), -20 - place);
        DUE.is("the tape is empty", g.job(0), -20);
        DUE.is("\"G 1 1 1;\" ahead of it", Due.jobOf(g, 0, "G 1 1 1;" + text), -20 - 8 - place);
        DUE.is("nothing is done", g.count(0, 0), 1);
    }

    private static void longTexts() {
        RayGround g = new RayGround();
        Due.put(g, 0, 0, 0, 0, 0);
        String forty = "F;F;F;F;F;F;F;F;F;F;F;F;F;F;F;F;F;F;F;F;F;F;F;F;F;F;F;F;F;F;F;F;F;F;F;F;F;F;F;F";
        DUE.is("forty steps", Due.jobOf(g, 0, forty), 40);
        DUE.is("and a blank", Due.jobOf(g, 0, forty + " "), 40);
        DUE.is("one more is missing", Due.jobOf(g, 0, forty + ";"), -100);
        DUE.is("no more can stand", Due.jobOf(g, 0, forty + "F"), -99);
        String blanks = " ".repeat(79);
        DUE.is("at the end", Due.jobOf(g, 0, blanks + "F"), 1);
        DUE.is("a fault there", Due.jobOf(g, 0, blanks + "x"), -99);
        DUE.is("eighty blanks", Due.jobOf(g, 0, blanks + " "), -100);
        DUE.is("a number up to the end", Due.jobOf(g, 0, "G1 1" + " ".repeat(75) + "9"), 1);
        DUE.is("a number too long at the end", Due.jobOf(g, 0, "G1 1" + " ".repeat(71) + "00001"), -95);
    }

    private static void jobsAreDone() {
        RayGround g = new RayGround();
        Due.put(g, 1, 0, 0, 0, 0, 1, 0, 5, 1, 6, 6, 500, 0, 7, 6, 500, 0, 6, 7, 500, 0, 9, 9, 500, 0);
        DUE.is("all three", Due.jobOf(g, 1, " F ; G 0 1 0020;R0003  4 "), 3);
        DUE.is("fitted", g.shift(1, 1, 0), -5);
        DUE.is("ground", g.count(1, 1), 2);
        DUE.is("a round", g.told(1, 1, 6), 1);
        DUE.is("a roof", g.count(1, 3), 4);
        DUE.is("the least numbers", Due.jobOf(g, 1, "G0 1 1;R0 3"), 2);
        DUE.is("grown less", g.count(1, 1), 1);
        DUE.is("the most", Due.jobOf(g, 1, "G100 100 20;R50 40"), 2);
        DUE.is("no roof of 40", g.count(1, 3), 0);
        DUE.is("four digits", Due.jobOf(g, 1, "G0000 0001 0001"), 1);
        DUE.is("in their order", Due.jobOf(g, 1, "R 0 3;G 100 1 20"), 2);
        DUE.is("grown behind roofs", g.count(1, 3), 0);
        DUE.is("the other year", g.count(0, 11), 0);
    }

    private static void jobsStop() {
        RayGround g = new RayGround();
        Due.put(g, 0, 0, 0, -3000, 1);
        DUE.is("not, first", Due.jobOf(g, 0, "F;G 1 1 1"), 0);
        DUE.is("the next is not done", g.count(0, 0), 1);
        DUE.is("not, second", Due.jobOf(g, 0, "G 1 1 1;F;R 1 3"), 1);
        DUE.is("the first was done", g.count(0, 1), 1);
        for (int k = 0; k < 5; k++) {
            Due.putRow(g, 0, 2 + 2 * k, 2, 7, 9);
        }
        DUE.is("full, second", Due.jobOf(g, 0, "G 0 1 1;R 1 3;G 100 1 20"), 1);
        DUE.is("the third was not done", g.count(0, 1), 1);
        DUE.is("no roofs is not refused", Due.jobOf(g, 1, "G 0 1 1;R 1 3;G 1 1 1"), 3);
    }

    private static void theTape() {
        RayGround g = new RayGround();
        Due.put(g, 1, 0, 0, 0, 0);
        Due.typeText(g, "F");
        DUE.is("bad", g.job(2), -1);
        DUE.is("bad", g.job(-1), -1);
        DUE.is("the tape stays", g.type(' ', 1), 2);
        DUE.is("it is done", g.job(1), 1);
        DUE.is("empty behind what was done", g.job(1), -20);
        Due.typeText(g, "F");
        DUE.is("refused by not", g.job(0), 0);
        DUE.is("empty behind what was refused", g.job(0), -20);
    }
}
