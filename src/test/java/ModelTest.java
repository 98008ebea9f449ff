/** Runs of calls, drawn by a counter of its own (always the same ones), asked of RayGround and of the model. */
final class ModelTest {
    private static final Due DUE = new Due("ModelTest");
    private static final int CALLS = 512;

    private final RayGround ground = new RayGround();
    private final Model model = new Model();
    private final String name;
    private final int span;
    private final int slope;
    private final int wrongNumbers;
    private final int lattice;
    private int placed = 0;
    private long state;
    private int calls = 0;

    private ModelTest(int run) {
        name = "run " + run + ", call ";
        state = run * 7919L + 17;
        span = new int[] {8, 12, 20, 24, 64, 16}[run % 6];
        slope = new int[] {0, 2, 10, 60, 3000}[run / 6 % 5];
        wrongNumbers = new int[] {100, 10, 1000, 30}[run % 4];
        // In every other run the first points stand one in each square of a field, so that there are thirds.
        lattice = run % 2 == 0 ? 4 + run / 2 % 4 : 0;
    }

    public static void main(String[] args) {
        int runs = args.length > 0 ? Integer.parseInt(args[0]) : 600;
        for (int run = 0; run < runs && DUE.wrongSoFar() < 20; run++) {
            new ModelTest(run).go();
        }
        DUE.end();
    }

    private int next(int n) {
        state = state * 6364136223846793005L + 1442695040888963407L;
        return (int) Math.floorMod(state >>> 33, (long) n);
    }

    /** A number from low to high, seldom one that is just or far beyond. */
    private int number(int low, int high) {
        if (next(wrongNumbers) == 0) {
            int[] beyond = {low - 1, high + 1, Integer.MIN_VALUE, Integer.MAX_VALUE, -1, high + 7};
            return beyond[next(beyond.length)];
        }
        return low + next(high - low + 1);
    }

    private void is(String call, long got, long want) {
        calls++;
        DUE.is(name + calls + ": " + call, got, want);
    }

    private void go() {
        int batches = 1 + next(9);
        for (int k = 0; k < batches; k++) {
            fillSheet();
        }
        while (calls < CALLS - 8) {
            anyCall();
            if (next(40) == 0) {
                is("all ground", ground.grow(0, 100, 1, 20), model.grow(0, 100, 1, 20));
            }
        }
        lookAround();
    }

    private void fillSheet() {
        int lane = 1 + next(2);
        int n = 1 + next(10);
        int year = next(4) == 0 && placed >= lattice * lattice ? 1 : 0;
        is("sheet", ground.sheet(0, lane, 4 * n), model.sheet(0, lane, 4 * n));
        int flat = next(3);
        for (int i = 0; i < 4 * n; i++) {
            int v;
            if (i % 4 < 2 && placed < lattice * lattice) {
                v = next(4) + 4 * (i % 4 == 0 ? placed % lattice : placed / lattice);
            } else if (i % 4 < 2) {
                v = next(span);
            } else if (i % 4 == 2) {
                v = flat == 0 ? 5 : flat == 1 ? 50 + next(slope + 1) : next(2 * slope + 1) - slope;
            } else {
                v = next(3) == 0 ? next(4) : next(2);
                placed++;
            }
            is("item", ground.item(0, lane, i, v), model.item(0, lane, i, v));
        }
        is("points", ground.points(year, 0, lane, 0, n), model.points(year, 0, lane, 0, n));
    }

    private int year() {
        int year = number(0, 1);
        return year == 1 && next(2) == 0 ? 0 : year;
    }

    private int point(int year) {
        return number(0, Math.max(0, model.count(year, 11) - 1));
    }

    private void anyCall() {
        int what = next(100);
        if (what < 12) {
            sheetCall();
        } else if (what < 35) {
            pointCall();
        } else if (what < 60) {
            groundCall();
        } else if (what < 88) {
            gridCall();
        } else {
            jobCall();
        }
    }

    private void sheetCall() {
        int a = number(0, 3);
        int b = number(0, 2);
        int c = number(0, 40);
        int d = number(0, 3);
        int e = number(0, 12);
        int n = number(0, 10);
        int year = year();
        switch (next(6)) {
            case 0:
                is("sheet", ground.sheet(a, b, c), model.sheet(a, b, c));
                break;
            case 1:
                is("drop", ground.drop(a), model.drop(a));
                break;
            case 2:
                is("item", ground.item(a, b, c, e), model.item(a, b, c, e));
                break;
            case 3:
                is("copy", ground.copy(a, e, d, c, n), model.copy(a, e, d, c, n));
                break;
            case 4:
                is("copy", ground.copy(a, e, a, n, c), model.copy(a, e, a, n, c));
                break;
            default:
                is("points", ground.points(year, a, b, e, n), model.points(year, a, b, e, n));
                break;
        }
    }

    private void pointCall() {
        int year = year();
        int point = point(year);
        int x0 = number(0, 40);
        int y0 = number(0, 40);
        int x1 = x0 + next(20);
        int y1 = y0 + next(20);
        int strip = number(0, 3);
        int by = number(-1000, 1000);
        int tile = number(0, 15);
        switch (next(12)) {
            case 0:
                is("box", ground.box(year, x0, y0, x1, y1), model.box(year, x0, y0, x1, y1));
                break;
            case 1:
                is("shift", ground.shift(year, strip, by), model.shift(year, strip, by));
                break;
            case 2:
                is("shift", ground.shift(year, strip, by % 9), model.shift(year, strip, by % 9));
                break;
            case 3:
            case 4:
                is("fit", ground.fit(year), model.fit(year));
                break;
            case 5:
            case 6:
                is("leftOver", ground.leftOver(year), model.leftOver(year));
                break;
            case 7:
                if (next(4) == 0) {
                    is("lose", ground.lose(year, tile), model.lose(year, tile));
                }
                break;
            default:
                int what = number(0, 6);
                is("told", ground.told(year, point, what), model.told(year, point, what));
                break;
        }
    }

    private void groundCall() {
        int year = year();
        int point = point(year);
        int what = number(0, 13);
        switch (next(5)) {
            case 0:
                int as = number(0, 2);
                is("hand", ground.hand(year, point, as), model.hand(year, point, as));
                break;
            case 1:
                int a = next(2) == 0 ? number(0, 100) : number(0, 5);
                int b = next(2) == 0 ? number(1, 100) : number(1, 5);
                int r = number(1, 20);
                is("grow", ground.grow(year, a, b, r), model.grow(year, a, b, r));
                break;
            case 2:
                int t = next(3) == 0 ? number(0, 50) : number(0, 3);
                int m = next(3) == 0 ? number(3, 40) : number(3, 6);
                is("roofs", ground.roofs(year, t, m), model.roofs(year, t, m));
                break;
            default:
                is("count", ground.count(year, what), model.count(year, what));
                break;
        }
    }

    private void gridCall() {
        int year = year();
        int level = next(2) == 0 ? number(-10, 60) : next(8) == 0 ? number(-10000, 10000) : next(slope + 2) - slope / 2;
        int i = number(0, 15);
        int t = next(2) == 0 ? number(0, 5) : number(0, 1000);
        switch (next(6)) {
            case 0:
                int j = number(0, 5);
                is("grid", ground.grid(year, i % 7, j), model.grid(year, i % 7, j));
                break;
            case 1:
                is("volume", ground.volume(year, level), model.volume(year, level));
                break;
            case 2:
                is("thirds", ground.thirds(year), model.thirds(year));
                break;
            case 3:
            case 4:
                is("lines", ground.lines(year, level, false), model.lines(year, level, false));
                is("lines closed", ground.lines(year, level, true), model.lines(year, level, true));
                break;
            default:
                int what = number(0, 3);
                is("changed", ground.changed(t, what), model.changed(t, what));
                break;
        }
    }

    private void jobCall() {
        StringBuilder text = new StringBuilder();
        for (int k = next(5); k > 0; k--) {
            String[] steps = {"F;", " F ; ", "G 2 1 12;", "G9 5 7 ;", "G 100 1 20;", "R 1 3;", " R0 0004;"};
            text.append(steps[next(steps.length)]);
        }
        int words = next(3) == 0 ? 1 + next(10) : 0;
        for (int k = 0; k < words; k++) {
            String[] likely = {"F", "G 3 1 9", "R 1 4", ";", " ", "G1 2 3", "R", "G", "7", " 9", " 20", "F;", "R 0 3;",
                "G 50 1 6;", "X", "00004", "0003", "101", " 0"};
            text.append(likely[next(likely.length)]);
            if (next(2) == 0) {
                text.append(next(2) == 0 ? " ;" : ";");
            }
        }
        if (next(4) > 0 && text.length() > 0 && text.charAt(text.length() - 1) == ';') {
            text.setLength(text.length() - 1);
        }
        for (int from = 0; from < text.length() && calls < CALLS - 9; from += 8) {
            String part = text.substring(from, Math.min(from + 8, text.length()));
            long w = next(50) == 0 ? 1 : -1;
            for (int k = 0; k < part.length(); k++) {
                w = w << 8 | part.charAt(k);
            }
            int n = next(60) == 0 ? number(0, 8) : part.length();
            is("type", ground.type(w, n), model.type(w, n));
        }
        int year = year();
        is("job \"" + text + "\"", ground.job(year), model.job(year));
    }

    // Behind the counted calls everything that can be asked is asked.
    private void lookAround() {
        for (int year = 0; year < 2; year++) {
            for (int point = 0; point <= model.count(year, 11); point++) {
                for (int what = 0; what <= 6; what++) {
                    is("told at the end", ground.told(year, point, what), model.told(year, point, what));
                }
            }
            for (int what = 0; what <= 13; what++) {
                is("count at the end", ground.count(year, what), model.count(year, what));
            }
            for (int i = 0; i < 16; i++) {
                for (int j = 0; j < 16; j++) {
                    is("grid at the end", ground.grid(year, i, j), model.grid(year, i, j));
                }
            }
            is("volume at the end", ground.volume(year, 3), model.volume(year, 3));
            for (int strip = 0; strip < 4; strip++) {
                is("shift at the end", ground.shift(year, strip, 0), model.shift(year, strip, 0));
            }
        }
        for (int sheet = 0; sheet < 4; sheet++) {
            is("drop at the end", ground.drop(sheet), model.drop(sheet));
        }
    }
}
