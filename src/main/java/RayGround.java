import java.util.Arrays;

/**
 * Ground told from points that were struck by light from a flier, in strips over tiles. The promises that this
 * class keeps are numbered in DOC.md; refusals are answers, never exceptions.
 */
public final class RayGround {
    public static final int BAD = -1, NOT = -2, FULL = -3, NULL = -11, CAST = -12, INDEX = -13, SIZE = -14;

    private static final int YEARS = 2;
    private static final int SHEETS = 4;
    private static final int LANES = 3;
    private static final int ITEMS_OF_POINT = 4;
    private static final int MOST_POINTS_AT_ONCE = 10;
    private static final int STRIPS = 4;
    private static final int TILES = 16;
    private static final int MOST_PLACE = 63;
    private static final int MOST_SHIFT = 1000;
    private static final int MOST_LEVEL = 10000;
    private static final int MOST_RISE = 1000;
    private static final int SQUARES_IN_ROW = 16;

    // What a point is. A roof is FIRST_ROOF or more.
    private static final int OPEN = 0;
    private static final int GROUND = 1;
    private static final int HIGH = 2;
    private static final int FIRST_ROOF = 3;
    private static final int MOST_ROOFS = 8;

    // Where every small number may be an answer, BAD is moved out of their way.
    private static final int BAD_LESS_10000 = -10001;
    private static final int BAD_LESS_1000000 = -1000001;

    // The bounds of the numbers of GROWN and ROOFS, for calls and jobs alike.
    private static final int MOST_A = 100;
    private static final int MOST_B = 100;
    private static final int MOST_R = 20;
    private static final int MOST_T = 50;
    private static final int LEAST_M = 3;
    private static final int MOST_M = 40;

    private final Sheet[] sheetRows = new Sheet[SHEETS];
    private final Year[] years = new Year[YEARS];
    private final Tape tape = new Tape();
    private final JobText jobText = new JobText();
    private final Fitting fitting = new Fitting();
    private final RoofFinder roofFinder = new RoofFinder();
    private final LineWalk lineWalk = new LineWalk();
    private final Grid firstGrid = new Grid();
    private final Grid secondGrid = new Grid();

    public RayGround() {
        for (int s = 0; s < SHEETS; s++) {
            sheetRows[s] = new Sheet();
        }
        for (int y = 0; y < YEARS; y++) {
            years[y] = new Year();
        }
    }

    // ---- 1 sheets and points

    public int sheet(int sheet, int lane, int n) {
        if (!isSheet(sheet) || !isLane(lane) || n > Sheet.MOST_ITEMS) {
            return BAD;
        }
        if (n < 0) {
            return SIZE;
        }
        sheetRows[sheet].renew(lane, n);
        return n;
    }

    public int drop(int sheet) {
        if (!isSheet(sheet)) {
            return BAD;
        }
        Sheet row = sheetRows[sheet];
        if (!row.holds()) {
            return NULL;
        }
        int had = row.size;
        row.clear();
        return had;
    }

    public int item(int sheet, int lane, int i, int v) {
        if (!isSheet(sheet) || !isLane(lane)) {
            return BAD;
        }
        Sheet row = sheetRows[sheet];
        if (!row.holds()) {
            return NULL;
        }
        if (row.lane != lane) {
            return CAST;
        }
        if (!row.hasRange(i, 1)) {
            return INDEX;
        }
        row.put(i, v);
        return 1;
    }

    public int copy(int from, int i, int to, int j, int n) {
        if (!isSheet(from) || !isSheet(to)) {
            return BAD;
        }
        Sheet source = sheetRows[from];
        Sheet target = sheetRows[to];
        if (!source.holds() || !target.holds()) {
            return NULL;
        }
        if (source.lane != target.lane) {
            return CAST;
        }
        if (!source.hasRange(i, n) || !target.hasRange(j, n)) {
            return INDEX;
        }
        System.arraycopy(source.items, i, target.items, j, n);
        return n;
    }

    public int points(int year, int sheet, int lane, int from, int n) {
        if (!isYear(year) || !isSheet(sheet) || !isLane(lane) || n < 1 || n > MOST_POINTS_AT_ONCE) {
            return BAD;
        }
        Sheet row = sheetRows[sheet];
        if (!row.holds()) {
            return NULL;
        }
        if (row.lane != lane) {
            return CAST;
        }
        if (!row.hasRange(from, ITEMS_OF_POINT * n)) {
            return INDEX;
        }
        Year held = years[year];
        if (!held.canTake(row.items, from, n)) {
            return NOT;
        }
        if (held.size + n > Year.MOST_POINTS) {
            return FULL;
        }
        held.take(row.items, from, n);
        return held.size;
    }

    public int told(int year, int point, int what) {
        if (!isYear(year) || !years[year].hasPoint(point)) {
            return BAD_LESS_10000;
        }
        Year held = years[year];
        switch (what) {
            case 0:
                return held.x[point];
            case 1:
                return held.y[point];
            case 2:
                return held.height(point);
            case 3:
                return held.strip[point];
            case 4:
                return held.kind[point];
            case 5:
                return held.byHand[point];
            case 6:
                return held.round[point];
            default:
                return BAD_LESS_10000;
        }
    }

    public int lose(int year, int tile) {
        if (!isYear(year) || tile < 0 || tile >= TILES) {
            return BAD;
        }
        Year held = years[year];
        if (held.lost[tile]) {
            return NOT;
        }
        held.lost[tile] = true;
        return held.removeTile(tile);
    }

    public int box(int year, int x0, int y0, int x1, int y1) {
        if (!isYear(year) || !isSpan(x0, x1) || !isSpan(y0, y1)) {
            return BAD;
        }
        Year held = years[year];
        if (held.touchesLost(x0, y0, x1, y1)) {
            return NOT;
        }
        return held.countInBox(x0, y0, x1, y1);
    }

    public int shift(int year, int strip, int by) {
        if (!isYear(year) || strip < 0 || strip >= STRIPS || by < -MOST_SHIFT || by > MOST_SHIFT) {
            return BAD_LESS_10000;
        }
        int was = years[year].shifts[strip];
        years[year].shifts[strip] = by;
        return was;
    }

    public int fit(int year) {
        if (!isYear(year)) {
            return BAD;
        }
        return fitting.bringTogether(years[year]);
    }

    public long leftOver(int year) {
        if (!isYear(year)) {
            return BAD;
        }
        return years[year].sumOfSquares();
    }

    // ---- 2 ground and roofs

    public int hand(int year, int point, int as) {
        if (!isYear(year) || !years[year].hasPoint(point) || as < OPEN || as > HIGH) {
            return BAD;
        }
        Year held = years[year];
        int was = held.byHand[point];
        held.byHand[point] = as;
        held.settle(point, as, as == GROUND ? 0 : Year.NO_ROUND);
        return was;
    }

    public int grow(int year, int a, int b, int r) {
        if (!isYear(year) || a < 0 || a > MOST_A || b < 1 || b > MOST_B || r < 1 || r > MOST_R) {
            return BAD;
        }
        return years[year].growGround(a, b, r);
    }

    public int roofs(int year, int t, int m) {
        if (!isYear(year) || t < 0 || t > MOST_T || m < LEAST_M || m > MOST_M) {
            return BAD;
        }
        return roofFinder.findAll(years[year], t, m);
    }

    public int count(int year, int what) {
        if (!isYear(year) || what < 0 || what > 13) {
            return BAD;
        }
        Year held = years[year];
        if (what == 11) {
            return held.size;
        }
        if (what == 12) {
            return held.countLost();
        }
        if (what == 13) {
            firstGrid.measure(held);
            return firstGrid.countFilled();
        }
        return held.countKind(what);
    }

    // ---- 3 grids

    public int grid(int year, int i, int j) {
        if (!isYear(year) || !isSquare(i) || !isSquare(j)) {
            return BAD_LESS_10000;
        }
        firstGrid.measure(years[year]);
        return firstGrid.at(i, j);
    }

    public long volume(int year, int level) {
        if (!isYear(year) || !isLevel(level)) {
            return 0;
        }
        firstGrid.measure(years[year]);
        return firstGrid.volumeAbove(level);
    }

    public int thirds(int year) {
        if (!isYear(year)) {
            return BAD;
        }
        firstGrid.measure(years[year]);
        return firstGrid.countThirds();
    }

    public int lines(int year, int level, boolean closed) {
        if (!isYear(year) || !isLevel(level)) {
            return BAD;
        }
        firstGrid.measure(years[year]);
        return lineWalk.countLines(firstGrid, level, closed);
    }

    public int changed(int t, int what) {
        if (t < 0 || t > MOST_RISE || what < 0 || what > 3) {
            return BAD_LESS_1000000;
        }
        firstGrid.measure(years[0]);
        secondGrid.measure(years[1]);
        switch (what) {
            case 0:
                return firstGrid.countBoth(secondGrid);
            case 1:
                return firstGrid.countRisen(secondGrid, t);
            case 2:
                return secondGrid.countRisen(firstGrid, t);
            default:
                return firstGrid.sumOfRises(secondGrid);
        }
    }

    // ---- 4 jobs

    public int type(long w, int n) {
        if (n < 1 || n > 8 || !Tape.isPlain(w, n)) {
            return BAD;
        }
        if (tape.size + n > Tape.MOST_BYTES) {
            return FULL;
        }
        tape.append(w, n);
        return tape.size;
    }

    public int job(int year) {
        if (!isYear(year)) {
            return BAD;
        }
        int fault = jobText.read(tape);
        tape.size = 0;
        if (fault < 0) {
            return fault;
        }
        int done = 0;
        while (done < jobText.steps && doStep(years[year], done) >= 0) {
            done++;
        }
        return done;
    }

    // The numbers of a step are as they may be: a text with others is a fault.
    private int doStep(Year held, int step) {
        int first = jobText.first[step];
        int second = jobText.second[step];
        char letter = jobText.letter[step];
        if (letter == 'F') {
            return fitting.bringTogether(held);
        }
        if (letter == 'G') {
            return held.growGround(first, second, jobText.third[step]);
        }
        return roofFinder.findAll(held, first, second);
    }

    private static boolean isYear(int year) {
        return year >= 0 && year < YEARS;
    }

    private static boolean isSheet(int sheet) {
        return sheet >= 0 && sheet < SHEETS;
    }

    private static boolean isLane(int lane) {
        return lane >= 0 && lane < LANES;
    }

    private static boolean isSpan(int low, int high) {
        return low >= 0 && low <= high && high <= MOST_PLACE;
    }

    private static boolean isSquare(int i) {
        return i >= 0 && i < SQUARES_IN_ROW;
    }

    private static boolean isLevel(int level) {
        return level >= -MOST_LEVEL && level <= MOST_LEVEL;
    }

    private static int tileOf(int x, int y) {
        return x / 16 + 4 * (y / 16);
    }

    /** A row of one lane. The row is made once and used again, so that many new rows take no room. */
    private static final class Sheet {
        static final int MOST_ITEMS = 40;
        static final int NOTHING = -1;
        static final int BYTES = 0;
        static final int SHORTS = 1;

        final int[] items = new int[MOST_ITEMS];
        int lane = NOTHING;
        int size = 0;

        boolean holds() {
            return lane != NOTHING;
        }

        void clear() {
            lane = NOTHING;
            size = 0;
        }

        void renew(int newLane, int newSize) {
            Arrays.fill(items, 0);
            lane = newLane;
            size = newSize;
        }

        // The sum is long, as from + n may be more than an int holds.
        boolean hasRange(int from, int n) {
            return from >= 0 && n >= 0 && (long) from + n <= size;
        }

        void put(int i, int v) {
            if (lane == BYTES) {
                items[i] = (byte) v;
            } else if (lane == SHORTS) {
                items[i] = (short) v;
            } else {
                items[i] = v;
            }
        }
    }

    /** The points of a year, their numbers being their places in the rows. */
    private static final class Year {
        static final int MOST_POINTS = 100;
        static final int MOST_Z = 3000;
        static final int NO_ROUND = -1;
        static final int NO_POINT = -1;

        final int[] x = new int[MOST_POINTS];
        final int[] y = new int[MOST_POINTS];
        final int[] z = new int[MOST_POINTS];
        final int[] strip = new int[MOST_POINTS];
        final int[] kind = new int[MOST_POINTS];
        final int[] byHand = new int[MOST_POINTS];
        final int[] round = new int[MOST_POINTS];
        final int[] shifts = new int[STRIPS];
        final boolean[] lost = new boolean[TILES];
        int size = 0;

        boolean hasPoint(int p) {
            return p >= 0 && p < size;
        }

        int height(int p) {
            return z[p] + shifts[strip[p]];
        }

        int square(int p) {
            return x[p] / 4 + SQUARES_IN_ROW * (y[p] / 4);
        }

        boolean canTake(int[] items, int from, int n) {
            for (int k = 0; k < n; k++) {
                int at = from + ITEMS_OF_POINT * k;
                if (!isPoint(items[at], items[at + 1], items[at + 2], items[at + 3])) {
                    return false;
                }
            }
            return true;
        }

        boolean isPoint(int px, int py, int pz, int ofStrip) {
            return px >= 0 && px <= MOST_PLACE && py >= 0 && py <= MOST_PLACE
                && pz >= -MOST_Z && pz <= MOST_Z && ofStrip >= 0 && ofStrip < STRIPS
                && !lost[tileOf(px, py)];
        }

        void take(int[] items, int from, int n) {
            for (int k = 0; k < n; k++) {
                int at = from + ITEMS_OF_POINT * k;
                x[size] = items[at];
                y[size] = items[at + 1];
                z[size] = items[at + 2];
                strip[size] = items[at + 3];
                byHand[size] = 0;
                settle(size, OPEN, NO_ROUND);
                size++;
            }
        }

        void settle(int p, int newKind, int newRound) {
            kind[p] = newKind;
            round[p] = newRound;
        }

        int removeTile(int tile) {
            int had = size;
            int kept = 0;
            for (int p = 0; p < had; p++) {
                if (tileOf(x[p], y[p]) != tile) {
                    move(p, kept);
                    kept++;
                }
            }
            size = kept;
            return had - kept;
        }

        void move(int from, int to) {
            x[to] = x[from];
            y[to] = y[from];
            z[to] = z[from];
            strip[to] = strip[from];
            kind[to] = kind[from];
            byHand[to] = byHand[from];
            round[to] = round[from];
        }

        boolean touchesLost(int x0, int y0, int x1, int y1) {
            for (int row = y0 / 16; row <= y1 / 16; row++) {
                for (int column = x0 / 16; column <= x1 / 16; column++) {
                    if (lost[column + 4 * row]) {
                        return true;
                    }
                }
            }
            return false;
        }

        int countInBox(int x0, int y0, int x1, int y1) {
            int found = 0;
            for (int p = 0; p < size; p++) {
                if (x[p] >= x0 && x[p] <= x1 && y[p] >= y0 && y[p] <= y1) {
                    found++;
                }
            }
            return found;
        }

        int countKind(int wanted) {
            int found = 0;
            for (int p = 0; p < size; p++) {
                if (kind[p] == wanted) {
                    found++;
                }
            }
            return found;
        }

        int countLost() {
            int found = 0;
            for (boolean gone : lost) {
                if (gone) {
                    found++;
                }
            }
            return found;
        }

        /** Only such pairs count for FITTED and LEFT OVER. */
        boolean isPair(int p, int q) {
            return strip[p] != strip[q] && square(p) == square(q);
        }

        long sumOfSquares() {
            long sum = 0;
            for (int p = 0; p < size; p++) {
                for (int q = 0; q < p; q++) {
                    if (isPair(p, q)) {
                        long difference = height(p) - height(q);
                        sum += difference * difference;
                    }
                }
            }
            return sum;
        }

        int growGround(int a, int b, int r) {
            startFromSeeds();
            boolean grew = true;
            for (int next = 1; grew && next <= size; next++) {
                grew = spread(next, a, b, r);
            }
            return countKind(GROUND);
        }

        // What is ground by hand is so in round 0 already, and stays.
        void startFromSeeds() {
            for (int p = 0; p < size; p++) {
                if (byHand[p] != GROUND) {
                    settle(p, HIGH, NO_ROUND);
                }
            }
            for (int tile = 0; tile < TILES; tile++) {
                int seed = lowestOf(tile);
                if (seed != NO_POINT) {
                    settle(seed, GROUND, 0);
                }
            }
        }

        int lowestOf(int tile) {
            int lowest = NO_POINT;
            for (int p = 0; p < size; p++) {
                if (byHand[p] != HIGH && tileOf(x[p], y[p]) == tile
                    && (lowest == NO_POINT || height(p) < height(lowest))) {
                    lowest = p;
                }
            }
            return lowest;
        }

        boolean spread(int next, int a, int b, int r) {
            boolean grew = false;
            for (int p = 0; p < size; p++) {
                if (kind[p] != GROUND && byHand[p] != HIGH && isReached(p, next - 1, a, b, r)) {
                    settle(p, GROUND, next);
                    grew = true;
                }
            }
            return grew;
        }

        // Only the ground of the round before is asked: what older ground reaches has come already.
        boolean isReached(int p, int before, int a, int b, int r) {
            for (int from = 0; from < size; from++) {
                if (round[from] == before && isNear(from, p, r) && isEven(from, p, a, b)) {
                    return true;
                }
            }
            return false;
        }

        int squareOfWay(int p, int q) {
            int dx = x[p] - x[q];
            int dy = y[p] - y[q];
            return dx * dx + dy * dy;
        }

        boolean isNear(int p, int q, int r) {
            return squareOfWay(p, q) <= r * r;
        }

        // Both sides are squared, so that no root need be drawn.
        boolean isEven(int p, int q, int a, int b) {
            long rise = (long) b * (height(p) - height(q));
            return rise * rise <= (long) a * a * squareOfWay(p, q);
        }
    }

    /** The shifts by which the sum of squares is least: three equations for the shifts of strips 1 to 3. */
    private static final class Fitting {
        static final int UNKNOWN = STRIPS - 1;

        final int[] pointsOf = new int[STRIPS];
        final long[][] left = new long[UNKNOWN][UNKNOWN];
        final long[] right = new long[UNKNOWN];
        final int[] found = new int[UNKNOWN];

        /** Answers 1, or NOT unless there is one least choice, within the bounds: then no shift is changed. */
        int bringTogether(Year year) {
            countPoints(year);
            if (pointsOf[0] == 0) {
                return NOT;
            }
            setEquations(year);
            if (!solve()) {
                return NOT;
            }
            year.shifts[0] = 0;
            for (int u = 0; u < UNKNOWN; u++) {
                year.shifts[u + 1] = found[u];
            }
            return 1;
        }

        void countPoints(Year year) {
            Arrays.fill(pointsOf, 0);
            for (int p = 0; p < year.size; p++) {
                pointsOf[year.strip[p]]++;
            }
        }

        void setEquations(Year year) {
            for (int u = 0; u < UNKNOWN; u++) {
                Arrays.fill(left[u], 0);
                right[u] = 0;
                // A strip without points gets the equation: its shift is 0.
                if (pointsOf[u + 1] == 0) {
                    left[u][u] = 1;
                }
            }
            for (int p = 0; p < year.size; p++) {
                for (int q = 0; q < year.size; q++) {
                    if (year.isPair(p, q)) {
                        addPair(year.strip[p] - 1, year.strip[q] - 1, year.z[q] - year.z[p]);
                    }
                }
            }
        }

        // Each pair comes twice, once from either end, and each end has an equation of its own.
        void addPair(int u, int v, int rise) {
            if (u < 0) {
                return;
            }
            left[u][u]++;
            right[u] += rise;
            if (v >= 0) {
                left[u][v]--;
            }
        }

        // No sum of squares has a determinant below 0; it is 0 where strips hang together with strip 0 by no pair.
        boolean solve() {
            long whole = determinant();
            if (whole <= 0) {
                return false;
            }
            for (int u = 0; u < UNKNOWN; u++) {
                swapColumn(u);
                long part = determinant();
                swapColumn(u);
                long nearest = Math.floorDiv(2 * part + whole, 2 * whole);
                if (nearest < -MOST_SHIFT || nearest > MOST_SHIFT) {
                    return false;
                }
                found[u] = (int) nearest;
            }
            return true;
        }

        void swapColumn(int u) {
            for (int row = 0; row < UNKNOWN; row++) {
                long kept = left[row][u];
                left[row][u] = right[row];
                right[row] = kept;
            }
        }

        long determinant() {
            return left[0][0] * minor(1, 2) - left[0][1] * minor(0, 2) + left[0][2] * minor(0, 1);
        }

        long minor(int c, int d) {
            return left[1][c] * left[2][d] - left[1][d] * left[2][c];
        }
    }

    /** Finds roofs among the high points of a year. */
    private static final class RoofFinder {
        static final int MOST_HIGH = 40;

        final int[] number = new int[MOST_HIGH];
        final int[] x = new int[MOST_HIGH];
        final int[] y = new int[MOST_HIGH];
        final int[] height = new int[MOST_HIGH];
        int size = 0;

        // The plane that is looked at: one of its points, and a normal.
        int base = 0;
        long normalX = 0;
        long normalY = 0;
        long normalH = 0;

        // The best plane so far.
        int bestCount = 0;
        int bestI = 0;
        int bestJ = 0;
        int bestK = 0;

        int findAll(Year year, int t, int m) {
            if (countFree(year) > MOST_HIGH) {
                return FULL;
            }
            gather(year);
            int roofsFound = 0;
            for (int roof = 0; roof < MOST_ROOFS; roof++) {
                findBest(t);
                if (bestCount < m) {
                    break;
                }
                takeBest(year, FIRST_ROOF + roof, t);
                roofsFound++;
            }
            return roofsFound;
        }

        boolean isFree(Year year, int p) {
            return year.kind[p] >= HIGH && year.byHand[p] == 0;
        }

        int countFree(Year year) {
            int free = 0;
            for (int p = 0; p < year.size; p++) {
                if (isFree(year, p)) {
                    free++;
                }
            }
            return free;
        }

        void gather(Year year) {
            size = 0;
            for (int p = 0; p < year.size; p++) {
                if (isFree(year, p) && size < MOST_HIGH) {
                    year.kind[p] = HIGH;
                    number[size] = p;
                    x[size] = year.x[p];
                    y[size] = year.y[p];
                    height[size] = year.height(p);
                    size++;
                }
            }
        }

        // Only a plane with more points takes the place of one that came before it: of like ones the first stays.
        void findBest(int t) {
            bestCount = 0;
            for (int i = 0; i < size; i++) {
                for (int j = i + 1; j < size; j++) {
                    for (int k = j + 1; k < size; k++) {
                        if (lay(i, j, k)) {
                            offer(i, j, k, countOn(t));
                        }
                    }
                }
            }
        }

        void offer(int i, int j, int k, int on) {
            if (on > bestCount) {
                bestCount = on;
                bestI = i;
                bestJ = j;
                bestK = k;
            }
        }

        /** Lays the plane through three points; answers false if they are on a line by x, y. */
        boolean lay(int i, int j, int k) {
            long ax = x[j] - x[i];
            long ay = y[j] - y[i];
            long ah = height[j] - height[i];
            long bx = x[k] - x[i];
            long by = y[k] - y[i];
            long bh = height[k] - height[i];
            base = i;
            normalX = ay * bh - ah * by;
            normalY = ah * bx - ax * bh;
            normalH = ax * by - ay * bx;
            return normalH != 0;
        }

        // The way above or below is asked times normalH, so that nothing is divided.
        boolean isOn(int p, int t) {
            long off = normalX * (x[p] - x[base]) + normalY * (y[p] - y[base]) + normalH * (height[p] - height[base]);
            return Math.abs(off) <= t * Math.abs(normalH);
        }

        // Ends early where even all that are left could not make it more than the best.
        int countOn(int t) {
            int on = 0;
            for (int p = 0; p < size && on + size - p > bestCount; p++) {
                if (isOn(p, t)) {
                    on++;
                }
            }
            return on;
        }

        void takeBest(Year year, int roof, int t) {
            lay(bestI, bestJ, bestK);
            // All are marked before any is moved: the plane leans on a point that moving would overwrite.
            for (int p = 0; p < size; p++) {
                if (isOn(p, t)) {
                    year.kind[number[p]] = roof;
                }
            }
            keepHigh(year);
        }

        void keepHigh(Year year) {
            int kept = 0;
            for (int p = 0; p < size; p++) {
                if (year.kind[number[p]] == HIGH) {
                    number[kept] = number[p];
                    x[kept] = x[p];
                    y[kept] = y[p];
                    height[kept] = height[p];
                    kept++;
                }
            }
            size = kept;
        }
    }

    /** The least ground heights of the squares; of each four neighbours that are no gap, two thirds. */
    private static final class Grid {
        static final int GAP = 100000;
        static final int QUADS_IN_ROW = SQUARES_IN_ROW - 1;
        static final int AREA = 8;

        final int[] cells = new int[SQUARES_IN_ROW * SQUARES_IN_ROW];

        void measure(Year year) {
            Arrays.fill(cells, GAP);
            for (int p = 0; p < year.size; p++) {
                if (year.kind[p] == GROUND) {
                    int square = year.square(p);
                    cells[square] = Math.min(cells[square], year.height(p));
                }
            }
        }

        int at(int i, int j) {
            return cells[i + SQUARES_IN_ROW * j];
        }

        boolean isFilled(int i, int j) {
            return cells[i + SQUARES_IN_ROW * j] != GAP;
        }

        boolean isQuad(int i, int j) {
            return i >= 0 && i < QUADS_IN_ROW && j >= 0 && j < QUADS_IN_ROW
                && isFilled(i, j) && isFilled(i + 1, j) && isFilled(i, j + 1) && isFilled(i + 1, j + 1);
        }

        int countFilled() {
            int filled = 0;
            for (int cell : cells) {
                if (cell != GAP) {
                    filled++;
                }
            }
            return filled;
        }

        int countThirds() {
            int found = 0;
            for (int j = 0; j < QUADS_IN_ROW; j++) {
                for (int i = 0; i < QUADS_IN_ROW; i++) {
                    if (isQuad(i, j)) {
                        found += 2;
                    }
                }
            }
            return found;
        }

        long volumeAbove(int level) {
            long sum = 0;
            for (int j = 0; j < QUADS_IN_ROW; j++) {
                for (int i = 0; i < QUADS_IN_ROW; i++) {
                    if (isQuad(i, j)) {
                        sum += sumOfBoth(i, j) - 6L * level;
                    }
                }
            }
            return AREA * sum;
        }

        // The corners of the diagonal belong to both thirds.
        int sumOfBoth(int i, int j) {
            return 2 * (at(i, j) + at(i + 1, j + 1)) + at(i + 1, j) + at(i, j + 1);
        }

        boolean bothFilled(Grid later, int square) {
            return cells[square] != GAP && later.cells[square] != GAP;
        }

        int countBoth(Grid later) {
            int found = 0;
            for (int s = 0; s < cells.length; s++) {
                if (bothFilled(later, s)) {
                    found++;
                }
            }
            return found;
        }

        int countRisen(Grid later, int t) {
            int found = 0;
            for (int s = 0; s < cells.length; s++) {
                if (bothFilled(later, s)) {
                    int rise = later.cells[s] - cells[s];
                    if (rise > 0 && rise >= t) {
                        found++;
                    }
                }
            }
            return found;
        }

        int sumOfRises(Grid later) {
            int sum = 0;
            for (int s = 0; s < cells.length; s++) {
                if (bothFilled(later, s)) {
                    sum += later.cells[s] - cells[s];
                }
            }
            return sum;
        }
    }

    /**
     * Walks the lines of one height from third to third. A third's number is twice its quad's, and one more for the
     * one with the corner (i, j + 1).
     */
    private static final class LineWalk {
        static final int IN_ROW = Grid.QUADS_IN_ROW;
        static final int THIRDS = 2 * IN_ROW * IN_ROW;
        static final int NO_THIRD = -1;
        static final int EDGES = 3;

        final boolean[] seen = new boolean[THIRDS];
        final int[] queue = new int[THIRDS];
        int queued = 0;

        int countLines(Grid cells, int level, boolean onlyClosed) {
            for (int third = 0; third < THIRDS; third++) {
                seen[third] = false;
            }
            int found = 0;
            for (int third = 0; third < THIRDS; third++) {
                if (!seen[third] && isCrossed(cells, level, third)) {
                    boolean isClosed = walkFrom(cells, level, third);
                    if (isClosed || !onlyClosed) {
                        found++;
                    }
                }
            }
            return found;
        }

        /** Sees all of the line that goes through a third; answers whether each crossed edge of it is shared. */
        boolean walkFrom(Grid cells, int level, int start) {
            boolean isClosed = true;
            queued = 0;
            enqueue(start);
            for (int head = 0; head < queued && head < THIRDS; head++) {
                for (int edge = 0; edge < EDGES; edge++) {
                    if (isEdgeCrossed(cells, level, queue[head], edge)) {
                        int next = beyond(cells, queue[head], edge);
                        if (next == NO_THIRD) {
                            isClosed = false;
                        } else {
                            enqueue(next);
                        }
                    }
                }
            }
            return isClosed;
        }

        void enqueue(int third) {
            if (!seen[third] && queued < THIRDS) {
                seen[third] = true;
                queue[queued] = third;
                queued++;
            }
        }

        boolean isCrossed(Grid cells, int level, int third) {
            if (!cells.isQuad(column(third), row(third))) {
                return false;
            }
            boolean first = isAbove(cells, level, third, 0);
            return isAbove(cells, level, third, 1) != first || isAbove(cells, level, third, 2) != first;
        }

        // Edge e runs from corner e to the next one; the last one back to corner 0.
        boolean isEdgeCrossed(Grid cells, int level, int third, int edge) {
            return isAbove(cells, level, third, edge) != isAbove(cells, level, third, (edge + 1) % EDGES);
        }

        // Corners: 0 is (i, j), 1 the third's own corner, 2 is (i + 1, j + 1).
        boolean isAbove(Grid cells, int level, int third, int corner) {
            int i = column(third);
            int j = row(third);
            if (corner == 2 || corner == 1 && !isUpper(third)) {
                i++;
            }
            if (corner == 2 || corner == 1 && isUpper(third)) {
                j++;
            }
            return cells.at(i, j) >= level;
        }

        /** The third that shares an edge, or none. */
        int beyond(Grid cells, int third, int edge) {
            int i = column(third);
            int j = row(third);
            boolean upper = isUpper(third);
            if (edge == 0) {
                return upper ? thirdAt(cells, i - 1, j, 0) : thirdAt(cells, i, j - 1, 1);
            }
            if (edge == 1) {
                return upper ? thirdAt(cells, i, j + 1, 0) : thirdAt(cells, i + 1, j, 1);
            }
            return thirdAt(cells, i, j, upper ? 0 : 1);
        }

        int thirdAt(Grid cells, int i, int j, int half) {
            return cells.isQuad(i, j) ? 2 * (i + IN_ROW * j) + half : NO_THIRD;
        }

        int column(int third) {
            return third / 2 % IN_ROW;
        }

        int row(int third) {
            return third / 2 / IN_ROW;
        }

        boolean isUpper(int third) {
            return third % 2 == 1;
        }
    }

    /** The bytes that were typed. */
    private static final class Tape {
        static final int MOST_BYTES = 80;
        static final int LEAST_BYTE = 32;
        static final int MOST_BYTE = 126;

        final char[] bytes = new char[MOST_BYTES];
        int size = 0;

        static boolean isPlain(long w, int n) {
            for (int k = 0; k < n; k++) {
                int value = byteOf(w, k);
                if (value < LEAST_BYTE || value > MOST_BYTE) {
                    return false;
                }
            }
            return true;
        }

        static int byteOf(long w, int k) {
            return (int) (w >>> 8 * k) & 255;
        }

        void append(long w, int n) {
            for (int k = n - 1; k >= 0 && size < MOST_BYTES; k--) {
                bytes[size] = (char) byteOf(w, k);
                size++;
            }
        }
    }

    /** The steps that a tape tells. */
    private static final class JobText {
        // A step takes a byte at least, so no tape tells more.
        static final int MOST_STEPS = Tape.MOST_BYTES;
        static final int FAULT = -20;
        static final int MOST_DIGITS = 4;

        final char[] letter = new char[MOST_STEPS];
        final int[] first = new int[MOST_STEPS];
        final int[] second = new int[MOST_STEPS];
        final int[] third = new int[MOST_STEPS];
        int steps = 0;

        private char[] bytes = new char[0];
        private int size = 0;
        private int at = 0;
        private boolean faulty = false;

        /** Answers a fault, or 0 if the tape tells steps. */
        int read(Tape tape) {
            bytes = tape.bytes;
            size = tape.size;
            at = 0;
            steps = 0;
            faulty = false;
            readStep();
            for (int step = 1; step < MOST_STEPS && !faulty && hasMore(); step++) {
                readBetween();
                readStep();
            }
            return faulty ? FAULT - at : 0;
        }

        // Blanks count for nothing, so a fault lies behind them.
        boolean hasMore() {
            while (at < size && bytes[at] == ' ') {
                at++;
            }
            return at < size;
        }

        void readBetween() {
            if (hasMore() && bytes[at] == ';') {
                at++;
            } else {
                faulty = true;
            }
        }

        // Once faulty, nothing is read any more, so that the first fault keeps its place.
        void readStep() {
            if (faulty || !hasMore() || steps >= MOST_STEPS) {
                faulty = true;
                return;
            }
            char kind = bytes[at];
            letter[steps] = kind;
            if (kind == 'F') {
                at++;
            } else if (kind == 'G') {
                at++;
                first[steps] = readNumber(0, MOST_A);
                second[steps] = readNumber(1, MOST_B);
                third[steps] = readNumber(1, MOST_R);
            } else if (kind == 'R') {
                at++;
                first[steps] = readNumber(0, MOST_T);
                second[steps] = readNumber(LEAST_M, MOST_M);
            } else {
                faulty = true;
            }
            steps++;
        }

        int readNumber(int least, int most) {
            if (faulty || !hasMore()) {
                faulty = true;
                return 0;
            }
            int start = at;
            int value = 0;
            while (at < size && at - start <= MOST_DIGITS && isDigit(bytes[at])) {
                value = 10 * value + bytes[at] - '0';
                at++;
            }
            int digits = at - start;
            if (digits < 1 || digits > MOST_DIGITS || value < least || value > most) {
                at = start;
                faulty = true;
            }
            return value;
        }

        static boolean isDigit(char c) {
            return c >= '0' && c <= '9';
        }
    }
}
