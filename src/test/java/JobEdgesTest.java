/** Promises 22 and 23, edge by edge: tapes of 0 and of 80 bytes, the ends of every number, every byte in every place. */
final class JobEdgesTest {
    private static final Due DUE = new Due("JobEdgesTest");
    private static final Refused REFUSED = new Refused(DUE);
    private static final int TOO_MANY = -3;

    public static void main(String[] args) {
        typeOneToEight();
        typeTheHighestFirst();
        typeMindsTheLowestAlone();
        typeUpTo80();
        typeAtTheEndOf80();
        typeTurnsNothing();
        tapeOfNoBytes();
        tapeOfBlanks();
        tapeOf80Bytes();
        everyByteFirst();
        everyByteInEveryPlace();
        everyTextCutShort();
        blanksBetween();
        endsOfGrowNumbers();
        endsOfRoofNumbers();
        numbersOfFourDigits();
        numbersOfMoreDigits();
        oneStepAtLeast();
        asManyAsOneLikes();
        faultsDoNothing();
        stepsAheadOfARefusal();
        fullAheadOfSteps();
        tapeIsEmptyBehindAllButBad();
        jobOfAYear();
        sameAgain();
        DUE.end();
    }

    private static void typeOneToEight() {
        RayGround g = new RayGround();
        int had = 0;
        for (int n = 1; n <= 8; n++) {
            had += n;
            DUE.is("type of " + n, g.type(0x4646464646464646L, n), had);
        }
        DUE.is("type of 0", g.type(0x4646464646464646L, 0), -1);
        DUE.is("type of 9", g.type(0x4646464646464646L, 9), -1);
    }

    private static void typeTheHighestFirst() {
        for (int n = 1; n <= 8; n++) {
            for (int place = 0; place < n; place++) {
                RayGround g = new RayGround();
                long w = 0x2020202020202020L;
                w ^= (long) (' ' ^ 'X') << 8 * (n - 1 - place);
                DUE.is("highest first: type", g.type(w, n), n);
                DUE.is("highest first: the place of X", g.job(0), -20 - place);
            }
        }
    }

    // Of more bytes than n those above are not looked at, whatever they are.
    private static void typeMindsTheLowestAlone() {
        for (int n = 1; n < 8; n++) {
            long mask = (1L << 8 * n) - 1;
            for (long above : new long[] {0, -1, 0x5858585858585858L, Long.MIN_VALUE}) {
                RayGround g = new RayGround();
                long w = above & ~mask | 0x2020202020202020L & mask;
                DUE.is("the lowest alone: type", g.type(w, n), n);
                DUE.is("the lowest alone: blanks", g.job(0), -20 - n);
            }
        }
        for (long w : new long[] {0, -1, Long.MIN_VALUE, Long.MAX_VALUE}) {
            for (int n = 1; n <= 8; n++) {
                DUE.is("bytes of 0, 127, 128, 255", new RayGround().type(w, n), -1);
            }
        }
    }

    private static void typeUpTo80() {
        for (int n = 1; n <= 8; n++) {
            RayGround g = new RayGround();
            int had = 0;
            while (had + n <= 80) {
                had += n;
                DUE.is("up to 80", g.type(0x2020202020202020L, n), had);
            }
            DUE.is("beyond 80", g.type(0x2020202020202020L, n), TOO_MANY);
            if (had < 80) {
                DUE.is("what is left", g.type(0x2020202020202020L, 80 - had), 80);
            }
            DUE.is("80: no more", g.type(' ', 1), TOO_MANY);
            DUE.is("80 blanks", g.job(0), -100);
        }
    }

    private static void typeAtTheEndOf80() {
        for (int had = 72; had <= 80; had++) {
            for (int n = 1; n <= 8; n++) {
                RayGround g = new RayGround();
                Due.typeText(g, "F" + " ".repeat(had - 1));
                boolean fits = had + n <= 80;
                DUE.is(had + " and " + n, g.type(0x2020202020202020L, n), fits ? had + n : TOO_MANY);
                DUE.is(had + " and " + n + ": one more", g.type(' ', 1),
                    (fits ? had + n : had) < 80 ? (fits ? had + n : had) + 1 : TOO_MANY);
            }
        }
    }

    // Nothing but a job looks at the tape.
    private static void typeTurnsNothing() {
        REFUSED.is("type and a job that is a fault", RayGround::new, -20, g -> Due.jobOf(g, 0, "XYZ"));
        Look.Maker scene = () -> {
            RayGround g = Scene.rich();
            Due.jobOf(g, 0, "X");
            return g;
        };
        REFUSED.is("type and a job that is a fault", scene, -22, g -> Due.jobOf(g, 0, "F F"));
    }

    private static void tapeOfNoBytes() {
        RayGround g = Scene.rich();
        Due.jobOf(g, 0, ";");
        DUE.is("no bytes", g.job(0), -20);
        DUE.is("no bytes, again", g.job(0), -20);
        DUE.is("no bytes, the other year", g.job(1), -20);
    }

    private static void tapeOfBlanks() {
        RayGround g = new RayGround();
        for (int n = 1; n <= 80; n += 13) {
            DUE.is("blanks", Due.jobOf(g, 0, " ".repeat(n)), -20 - n);
        }
    }

    private static void tapeOf80Bytes() {
        RayGround g = new RayGround();
        Due.put(g, 0, 0, 0, 0, 0);
        DUE.is("a step and blanks", Due.jobOf(g, 0, "F" + " ".repeat(79)), 1);
        DUE.is("blanks and a step", Due.jobOf(g, 0, " ".repeat(79) + "F"), 1);
        DUE.is("a fault at the last byte", Due.jobOf(g, 0, "F" + " ".repeat(78) + "F"), -99);
        DUE.is("a fault behind the last byte", Due.jobOf(g, 0, "F" + " ".repeat(78) + ";"), -100);
        DUE.is("a letter at the last byte", Due.jobOf(g, 0, " ".repeat(79) + "G"), -100);
        DUE.is("a number at the last byte", Due.jobOf(g, 0, "G 0 1" + " ".repeat(74) + "1"), 1);
        DUE.is("a wrong number at the last byte", Due.jobOf(g, 0, "G 0 1" + " ".repeat(74) + "0"), -99);
        DUE.is("a number of four digits there", Due.jobOf(g, 0, "G 0 1" + " ".repeat(71) + "0001"), 1);
        DUE.is("a number of five digits there", Due.jobOf(g, 0, "G 0 1" + " ".repeat(70) + "00001"), -95);
        DUE.is("80 digits", Due.jobOf(g, 0, "G" + "1".repeat(79)), -21);
    }

    private static void everyByteFirst() {
        for (char c = 32; c <= 126; c++) {
            RayGround g = new RayGround();
            Due.put(g, 0, 0, 0, 0, 0);
            int want = c == 'F' ? 1 : c == 'G' || c == 'R' || c == ' ' ? -21 : -20;
            DUE.is("\"" + c + "\"", Due.jobOf(g, 0, "" + c), want);
            int behind = c == 'F' ? 2 : c == 'G' || c == 'R' || c == ' ' ? -24 : -23;
            DUE.is("\"F; " + c + "\"", Due.jobOf(g, 0, "F; " + c), behind);
        }
    }

    // Asked of the model, which cuts a text into words first.
    private static void everyByteInEveryPlace() {
        String[] texts = {"F", "G 1 2 3", "R 4 5", "F;G1 20 3 ; R 0 0003", " G 100 100 20", "R 50 40;F"};
        for (String text : texts) {
            for (int place = 0; place <= text.length(); place++) {
                for (char c = 32; c <= 126; c++) {
                    sameAsModel(text.substring(0, place) + c + text.substring(place));
                    if (place < text.length()) {
                        sameAsModel(text.substring(0, place) + c + text.substring(place + 1));
                    }
                }
            }
        }
    }

    private static void everyTextCutShort() {
        String text = "  F ;G  100 0100   0020 ;; R 50 0040 ; F ";
        for (int from = 0; from < text.length(); from++) {
            for (int to = from; to <= text.length(); to++) {
                sameAsModel(text.substring(from, to));
            }
        }
    }

    private static void sameAsModel(String text) {
        RayGround g = new RayGround();
        Model model = new Model();
        for (int k = 0; k < text.length(); k++) {
            g.type(text.charAt(k), 1);
            model.type(text.charAt(k), 1);
        }
        DUE.is("\"" + text + "\", no points", g.job(0), model.job(0));
        RayGround h = new RayGround();
        Model one = new Model();
        Due.put(h, 1, 1, 1, 5, 0);
        one.sheet(0, 0, 4);
        one.item(0, 0, 0, 1);
        one.points(1, 0, 0, 0, 1);
        for (int k = 0; k < text.length(); k++) {
            one.type(text.charAt(k), 1);
        }
        DUE.is("\"" + text + "\", one point", Due.jobOf(h, 1, text), one.job(1));
    }

    private static void blanksBetween() {
        String[] same = {"G1 2 3;R4 5;F", " G1 2 3;R4 5;F", "G 1 2 3;R 4 5;F", "G1  2   3;R4 5;F", "G1 2 3 ;R4 5;F",
            "G1 2 3; R4 5;F", "G1 2 3;R4 5 ; F  ", "   G   1   2   3   ;   R   4   5   ;   F   "};
        for (String text : same) {
            RayGround g = new RayGround();
            Due.put(g, 0, 0, 0, 0, 0);
            DUE.is("\"" + text + "\"", Due.jobOf(g, 0, text), 3);
        }
        RayGround g = new RayGround();
        DUE.is("numbers with none between", Due.jobOf(g, 0, "G123"), -21);
        DUE.is("two numbers of three", Due.jobOf(g, 0, "G1 23"), -25);
        DUE.is("a blank within a number makes two", Due.jobOf(g, 0, "R5 0 3"), -23);
    }

    private static void fault(String text, int place) {
        RayGround g = new RayGround();
        Due.put(g, 0, 0, 0, 0, 0);
        DUE.is("\"" + text + "\"", Due.jobOf(g, 0, text), place < 0 ? 1 : -20 - place);
        DUE.is("\"" + text + "\": open", g.count(0, 0), place < 0 && text.indexOf('G') >= 0 ? 0 : 1);
    }

    private static void endsOfGrowNumbers() {
        fault("G 0 1 1", -1);
        fault("G 100 1 1", -1);
        fault("G 101 1 1", 2);
        fault("G 9999 1 1", 2);
        fault("G -1 1 1", 2);
        fault("G 0 100 1", -1);
        fault("G 0 101 1", 4);
        fault("G 0 0 1", 4);
        fault("G 0 0000 1", 4);
        fault("G 0 1 20", -1);
        fault("G 0 1 21", 6);
        fault("G 0 1 0", 6);
        fault("G 0 1 -1", 6);
        fault("G 100 100 20", -1);
        fault("G 101 0 0", 2);
    }

    private static void endsOfRoofNumbers() {
        fault("R 0 3", -1);
        fault("R 50 3", -1);
        fault("R 51 3", 2);
        fault("R -1 3", 2);
        fault("R 0 40", -1);
        fault("R 0 41", 4);
        fault("R 0 2", 4);
        fault("R 0 0", 4);
        fault("R 50 40", -1);
        fault("R 51 2", 2);
    }

    private static void numbersOfFourDigits() {
        fault("G 0000 0001 0001", -1);
        fault("G 0100 0100 0020", -1);
        fault("G 000 001 001", -1);
        fault("G 0101 1 1", 2);
        fault("R 0050 0040", -1);
        fault("R 0000 0003", -1);
        fault("R 0000 0002", 7);
    }

    // Their first byte can't stand, whatever their value would be, as an int too.
    private static void numbersOfMoreDigits() {
        fault("G 00000 1 1", 2);
        fault("G 00001 1 1", 2);
        fault("G 1 00001 1", 4);
        fault("G 1 1 00001", 6);
        fault("R 00001 3", 2);
        fault("R 1 00003", 4);
        fault("G 4294967296 1 1", 2);
        fault("G 1 4294967297 1", 4);
        fault("G 1 1 18446744073709551617", 6);
        fault("R 4294967299 4294967299", 2);
        fault("G 1 1 00001;F", 6);
        fault("G 1 1 00001x", 6);
    }

    private static void oneStepAtLeast() {
        fault("", 0);
        fault(";", 0);
        fault(" ; ", 1);
        fault(";F", 0);
        fault("F;", 2);
        fault("F ; ", 4);
        fault("F;;F", 2);
        fault("F ; ; F", 4);
        fault("F", -1);
        fault(" F ", -1);
    }

    private static void asManyAsOneLikes() {
        RayGround g = new RayGround();
        Due.put(g, 0, 0, 0, 0, 0);
        StringBuilder text = new StringBuilder("F");
        for (int steps = 1; steps <= 40; steps++) {
            DUE.is("steps", Due.jobOf(g, 0, text.toString()), steps);
            text.append(";F");
        }
        DUE.is("40 steps and ; between and behind", Due.jobOf(g, 0, text.substring(0, 80)), -100);
        DUE.is("eleven steps of G and one of F", Due.jobOf(g, 0, "G1 1 1;".repeat(11) + "F"), 12);
    }

    private static void faultsDoNothing() {
        Look.Maker scene = () -> {
            RayGround g = Scene.rich();
            Due.jobOf(g, 0, "X");
            return g;
        };
        String[] faulty = {"G 99 1 20;", "G 99 1 20;R 50 3;X", "R 50 3;G 1 1 21", "G 99 1 20 F", "G 99 1 20;R 50 2"};
        int[] places = {10, 17, 13, 10, 15};
        for (int k = 0; k < faulty.length; k++) {
            String text = faulty[k];
            REFUSED.is("a fault: \"" + text + "\"", scene, -20 - places[k], g -> Due.jobOf(g, 0, text));
        }
        REFUSED.is("refused at once", scene, 0, g -> Due.jobOf(g, 0, "F;F"));
    }

    // Strip 1 hangs with none, so that F is refused.
    private static void stepsAheadOfARefusal() {
        String[] texts = {"F", "F;G 1 1 1", "G 0 1 1;F", "G 0 1 1;F;G 100 1 20", "G 0 1 1;R 0 3;F;R 50 40;G 1 1 1"};
        int[] done = {0, 0, 1, 1, 2};
        int[] ground = {0, 0, 1, 1, 1};
        for (int k = 0; k < texts.length; k++) {
            RayGround g = new RayGround();
            Due.put(g, 0, 0, 0, 0, 0, 5, 5, 90, 0, 9, 5, 91, 1, 5, 6, 92, 0);
            g.shift(0, 1, 3);
            DUE.is("refused by NOT: \"" + texts[k] + "\"", Due.jobOf(g, 0, texts[k]), done[k]);
            DUE.is("refused by NOT: ground", g.count(0, 1), ground[k]);
            DUE.is("refused by NOT: open", g.count(0, 0), ground[k] == 0 ? 4 : 0);
            DUE.is("refused by NOT: the roof", g.count(0, 3), done[k] == 2 ? 3 : 0);
            DUE.is("refused by NOT: no shift", g.shift(0, 1, 0), 3);
        }
    }

    private static void fullAheadOfSteps() {
        RayGround g = Scene.high(41);
        DUE.is("refused by FULL", Due.jobOf(g, 0, "R 0 3;G 100 1 20"), 0);
        DUE.is("refused by FULL: what is behind is not done", g.count(0, 2), 41);
        DUE.is("refused by FULL, second", Due.jobOf(g, 0, "G 0 1 1;R 0 3;F"), 1);
        DUE.is("refused by FULL, second: high", g.count(0, 2), 41);
        RayGround h = Scene.high(40);
        DUE.is("not refused", Due.jobOf(h, 0, "R 0 3;R 0 40;F"), 3);
        DUE.is("no roofs is no refusal", Due.jobOf(h, 0, "G 0 1 1;R 0 3;R 0 40;G 100 1 1;R 0 3"), 5);
    }

    private static void tapeIsEmptyBehindAllButBad() {
        String[] texts = {"F", "F;F", "F;", "X", "G 1 1 1;F", "R 1 3", " "};
        for (String text : texts) {
            for (int year = 0; year < 2; year++) {
                RayGround g = new RayGround();
                Due.put(g, 0, 0, 0, 0, 0);
                Due.typeText(g, text);
                DUE.is("BAD: the year", g.job(2), -1);
                DUE.is("BAD: the year", g.job(-1), -1);
                DUE.is("BAD: the tape stays", g.type(' ', 1), text.length() + 1);
                g.job(year);
                DUE.is("the tape is empty: job", g.job(year), -20);
                DUE.is("the tape is empty: type", g.type(' ', 1), 1);
            }
        }
    }

    private static void jobOfAYear() {
        RayGround g = new RayGround();
        for (int year = 0; year < 2; year++) {
            Due.put(g, year, 0, 0, 0, 0, 1, 1, 8, 1, 5, 5, 90, 0);
        }
        DUE.is("year 1", Due.jobOf(g, 1, "F;G 1 1 1"), 2);
        DUE.is("year 1: fitted", g.told(1, 1, 2), 0);
        DUE.is("year 1: ground", g.count(1, 1), 1);
        DUE.is("year 0: not fitted", g.told(0, 1, 2), 8);
        DUE.is("year 0: open", g.count(0, 0), 3);
    }

    // Jobs come to the same again as their calls do, and as they do themselves.
    private static void sameAgain() {
        Look.Maker byCalls = () -> {
            RayGround g = Scene.rich();
            Due.jobOf(g, 0, "X");
            g.grow(1, 9, 1, 9);
            g.roofs(1, 5, 3);
            return g;
        };
        for (int times = 1; times <= 3; times++) {
            int asked = times;
            Look.Maker byJobs = () -> {
                RayGround g = Scene.rich();
                Due.jobOf(g, 0, "X");
                for (int k = 0; k < asked; k++) {
                    Due.jobOf(g, 1, "G 9 1 9;R 5 3");
                }
                return g;
            };
            DUE.holds("a job comes to the same as its calls, done " + times, Look.at(byJobs).equals(Look.at(byCalls)));
        }
    }
}
