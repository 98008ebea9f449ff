import java.math.BigInteger;
import java.util.ArrayList;
import java.util.Arrays;
import java.util.HashMap;
import java.util.List;
import java.util.Map;

/**
 * The document once more, written for plainness and by other ways than RayGround (real rows and what the machine
 * throws, fractions of any length, sets of edges), so that the same slip is not likely in both.
 */
final class Model {
    static final class Point {
        int x;
        int y;
        int z;
        int strip;
        int kind = 0;
        int byHand = 0;
        int round = -1;
    }

    private final Object[] sheets = new Object[4];
    private final List<List<Point>> years = List.of(new ArrayList<>(), new ArrayList<>());
    private final int[][] shifts = new int[2][4];
    private final boolean[][] lost = new boolean[2][16];
    private String tape = "";

    private static boolean in(int v, int low, int high) {
        return low <= v && v <= high;
    }

    private int h(int year, Point p) {
        return p.z + shifts[year][p.strip];
    }

    private static int length(Object row) {
        return row instanceof byte[] b ? b.length : row instanceof short[] s ? s.length : ((int[]) row).length;
    }

    private static Class<?> lane(int lane) {
        return lane == 0 ? byte[].class : lane == 1 ? short[].class : int[].class;
    }

    int sheet(int sheet, int lane, int n) {
        if (!in(sheet, 0, 3) || !in(lane, 0, 2) || n > 40) {
            return -1;
        }
        try {
            sheets[sheet] = lane == 0 ? new byte[n] : lane == 1 ? new short[n] : (Object) new int[n];
            return n;
        } catch (NegativeArraySizeException e) {
            return -14;
        }
    }

    int drop(int sheet) {
        if (!in(sheet, 0, 3)) {
            return -1;
        }
        if (sheets[sheet] == null) {
            return -11;
        }
        int n = length(sheets[sheet]);
        sheets[sheet] = null;
        return n;
    }

    int item(int sheet, int lane, int i, int v) {
        if (!in(sheet, 0, 3) || !in(lane, 0, 2)) {
            return -1;
        }
        Object row = sheets[sheet];
        if (row == null) {
            return -11;
        }
        try {
            if (lane == 0) {
                ((byte[]) row)[i] = (byte) v;
            } else if (lane == 1) {
                ((short[]) row)[i] = (short) v;
            } else {
                ((int[]) row)[i] = v;
            }
            return 1;
        } catch (ClassCastException e) {
            return -12;
        } catch (ArrayIndexOutOfBoundsException e) {
            return -13;
        }
    }

    int copy(int from, int i, int to, int j, int n) {
        if (!in(from, 0, 3) || !in(to, 0, 3)) {
            return -1;
        }
        if (sheets[from] == null || sheets[to] == null) {
            return -11;
        }
        try {
            System.arraycopy(sheets[from], i, sheets[to], j, n);
            return n;
        } catch (ArrayStoreException e) {
            return -12;
        } catch (IndexOutOfBoundsException e) {
            return -13;
        }
    }

    int points(int year, int sheet, int lane, int from, int n) {
        if (!in(year, 0, 1) || !in(sheet, 0, 3) || !in(lane, 0, 2) || !in(n, 1, 10)) {
            return -1;
        }
        Object row = sheets[sheet];
        if (row == null) {
            return -11;
        }
        if (row.getClass() != lane(lane)) {
            return -12;
        }
        if (from < 0 || from > length(row) - 4 * n) {
            return -13;
        }
        List<Point> more = new ArrayList<>();
        for (int k = 0; k < n; k++) {
            Point p = new Point();
            p.x = java.lang.reflect.Array.getInt(row, from + 4 * k);
            p.y = java.lang.reflect.Array.getInt(row, from + 4 * k + 1);
            p.z = java.lang.reflect.Array.getInt(row, from + 4 * k + 2);
            p.strip = java.lang.reflect.Array.getInt(row, from + 4 * k + 3);
            if (!in(p.x, 0, 63) || !in(p.y, 0, 63) || !in(p.z, -3000, 3000) || !in(p.strip, 0, 3)
                || lost[year][tile(p)]) {
                return -2;
            }
            more.add(p);
        }
        if (years.get(year).size() + n > 100) {
            return -3;
        }
        years.get(year).addAll(more);
        return years.get(year).size();
    }

    private static int tile(Point p) {
        return (p.x >> 4) | (p.y >> 4) << 2;
    }

    private static int square(Point p) {
        return p.x / 4 * 100 + p.y / 4;
    }

    int told(int year, int point, int what) {
        if (!in(year, 0, 1) || !in(point, 0, years.get(year).size() - 1) || !in(what, 0, 6)) {
            return -10001;
        }
        Point p = years.get(year).get(point);
        return new int[] {p.x, p.y, h(year, p), p.strip, p.kind, p.byHand, p.kind == 1 ? p.round : -1}[what];
    }

    int lose(int year, int tile) {
        if (!in(year, 0, 1) || !in(tile, 0, 15)) {
            return -1;
        }
        if (lost[year][tile]) {
            return -2;
        }
        lost[year][tile] = true;
        int had = years.get(year).size();
        years.get(year).removeIf(p -> tile(p) == tile);
        return had - years.get(year).size();
    }

    int box(int year, int x0, int y0, int x1, int y1) {
        if (!in(year, 0, 1) || !in(x0, 0, 63) || !in(y0, 0, 63) || !in(x1, x0, 63) || !in(y1, y0, 63)) {
            return -1;
        }
        for (int x = x0; x <= x1; x++) {
            for (int y = y0; y <= y1; y++) {
                if (lost[year][x / 16 + 4 * (y / 16)]) {
                    return -2;
                }
            }
        }
        return (int) years.get(year).stream().filter(p -> in(p.x, x0, x1) && in(p.y, y0, y1)).count();
    }

    int shift(int year, int strip, int by) {
        if (!in(year, 0, 1) || !in(strip, 0, 3) || !in(by, -1000, 1000)) {
            return -10001;
        }
        int was = shifts[year][strip];
        shifts[year][strip] = by;
        return was;
    }

    /** Elimination with whole numbers; a strip whose column has no pivot is free, so more than one choice is least. */
    int fit(int year) {
        if (!in(year, 0, 1)) {
            return -1;
        }
        List<Point> all = years.get(year);
        boolean[] has = new boolean[4];
        for (Point p : all) {
            has[p.strip] = true;
        }
        if (!has[0]) {
            return -2;
        }
        List<Integer> unknown = new ArrayList<>();
        for (int s = 1; s < 4; s++) {
            if (has[s]) {
                unknown.add(s);
            }
        }
        int n = unknown.size();
        BigInteger[][] m = new BigInteger[n][n + 1];
        for (BigInteger[] row : m) {
            Arrays.fill(row, BigInteger.ZERO);
        }
        for (Point p : all) {
            for (Point q : all) {
                int u = unknown.indexOf(p.strip);
                if (p.strip == q.strip || square(p) != square(q) || u < 0) {
                    continue;
                }
                m[u][u] = m[u][u].add(BigInteger.ONE);
                m[u][n] = m[u][n].add(BigInteger.valueOf(q.z - p.z));
                int v = unknown.indexOf(q.strip);
                if (v >= 0) {
                    m[u][v] = m[u][v].subtract(BigInteger.ONE);
                }
            }
        }
        int[] by = new int[4];
        for (int c = 0; c < n; c++) {
            int pivot = c;
            while (pivot < n && m[pivot][c].signum() == 0) {
                pivot++;
            }
            if (pivot == n) {
                return -2;
            }
            BigInteger[] kept = m[c];
            m[c] = m[pivot];
            m[pivot] = kept;
            for (int row = 0; row < n; row++) {
                if (row != c) {
                    BigInteger a = m[c][c];
                    BigInteger b = m[row][c];
                    for (int k = 0; k <= n; k++) {
                        m[row][k] = m[row][k].multiply(a).subtract(m[c][k].multiply(b));
                    }
                }
            }
        }
        for (int c = 0; c < n; c++) {
            java.math.BigDecimal exact = new java.math.BigDecimal(m[c][n]).add(
                new java.math.BigDecimal(m[c][c]).divide(java.math.BigDecimal.valueOf(2)));
            int value = exact.divide(new java.math.BigDecimal(m[c][c]), 0, java.math.RoundingMode.FLOOR).intValueExact();
            if (!in(value, -1000, 1000)) {
                return -2;
            }
            by[unknown.get(c)] = value;
        }
        shifts[year] = by;
        return 1;
    }

    long leftOver(int year) {
        if (!in(year, 0, 1)) {
            return -1;
        }
        long twice = 0;
        for (Point p : years.get(year)) {
            for (Point q : years.get(year)) {
                if (p.strip != q.strip && square(p) == square(q)) {
                    twice += (long) Math.pow(h(year, p) - h(year, q), 2);
                }
            }
        }
        return twice / 2;
    }

    int hand(int year, int point, int as) {
        if (!in(year, 0, 1) || !in(point, 0, years.get(year).size() - 1) || !in(as, 0, 2)) {
            return -1;
        }
        Point p = years.get(year).get(point);
        int was = p.byHand;
        p.byHand = as;
        p.kind = as;
        p.round = 0;
        return was;
    }

    int grow(int year, int a, int b, int r) {
        if (!in(year, 0, 1) || !in(a, 0, 100) || !in(b, 1, 100) || !in(r, 1, 20)) {
            return -1;
        }
        List<Point> all = years.get(year);
        List<Point> ground = new ArrayList<>();
        Point[] seeds = new Point[16];
        for (Point p : all) {
            if (p.byHand != 2 && (seeds[tile(p)] == null || h(year, p) < h(year, seeds[tile(p)]))) {
                seeds[tile(p)] = p;
            }
        }
        for (Point p : all) {
            if (p.byHand == 1 || seeds[tile(p)] == p) {
                p.round = 0;
                ground.add(p);
            }
        }
        for (int round = 1;; round++) {
            List<Point> come = new ArrayList<>();
            for (Point p : all) {
                if (p.byHand != 2 && !ground.contains(p)
                    && ground.stream().anyMatch(g -> reaches(year, g, p, a, b, r))) {
                    p.round = round;
                    come.add(p);
                }
            }
            if (come.isEmpty()) {
                break;
            }
            ground.addAll(come);
        }
        for (Point p : all) {
            p.kind = ground.contains(p) ? 1 : 2;
        }
        return ground.size();
    }

    private boolean reaches(int year, Point g, Point p, int a, int b, int r) {
        BigInteger way = BigInteger.valueOf((g.x - p.x) * (g.x - p.x) + (g.y - p.y) * (g.y - p.y));
        BigInteger rise = BigInteger.valueOf(h(year, g) - h(year, p)).multiply(BigInteger.valueOf(b));
        return way.compareTo(BigInteger.valueOf(r * r)) <= 0
            && rise.pow(2).compareTo(way.multiply(BigInteger.valueOf(a).pow(2))) <= 0;
    }

    int roofs(int year, int t, int m) {
        if (!in(year, 0, 1) || !in(t, 0, 50) || !in(m, 3, 40)) {
            return -1;
        }
        List<Point> left = new ArrayList<>();
        for (Point p : years.get(year)) {
            if (p.kind >= 2 && p.byHand != 2) {
                left.add(p);
            }
        }
        if (left.size() > 40) {
            return -3;
        }
        for (Point p : left) {
            p.kind = 2;
        }
        int found = 0;
        while (found < 8) {
            List<Point> best = new ArrayList<>();
            for (int i = 0; i < left.size(); i++) {
                for (int j = i + 1; j < left.size(); j++) {
                    for (int k = j + 1; k < left.size(); k++) {
                        List<Point> on = onPlane(year, left, left.get(i), left.get(j), left.get(k), t);
                        if (on.size() > best.size()) {
                            best = on;
                        }
                    }
                }
            }
            if (best.size() < m) {
                break;
            }
            for (Point p : best) {
                p.kind = 3 + found;
            }
            left.removeAll(best);
            found++;
        }
        return found;
    }

    // The height of the plane at a point is the mean of the three heights, weighed by the areas across from them.
    private List<Point> onPlane(int year, List<Point> left, Point a, Point b, Point c, int t) {
        List<Point> on = new ArrayList<>();
        long whole = area(a, b, c);
        if (whole == 0) {
            return on;
        }
        for (Point p : left) {
            long plane = area(p, b, c) * h(year, a) + area(a, p, c) * h(year, b) + area(a, b, p) * h(year, c);
            long off = plane - whole * h(year, p);
            if (Math.abs(off) <= Math.abs(whole * t)) {
                on.add(p);
            }
        }
        return on;
    }

    private static long area(Point a, Point b, Point c) {
        return (long) a.x * b.y - (long) b.x * a.y + (long) b.x * c.y - (long) c.x * b.y
            + (long) c.x * a.y - (long) a.x * c.y;
    }

    int count(int year, int what) {
        if (!in(year, 0, 1) || !in(what, 0, 13)) {
            return -1;
        }
        int found = 0;
        switch (what) {
            case 11:
                return years.get(year).size();
            case 12:
                for (int tile = 0; tile < 16; tile++) {
                    found += lost[year][tile] ? 1 : 0;
                }
                return found;
            case 13:
                return squares(year).size();
            default:
                return (int) years.get(year).stream().filter(p -> p.kind == what).count();
        }
    }

    private Map<Integer, Integer> squares(int year) {
        Map<Integer, Integer> least = new HashMap<>();
        for (Point p : years.get(year)) {
            if (p.kind == 1) {
                least.merge(square(p), h(year, p), Math::min);
            }
        }
        return least;
    }

    int grid(int year, int i, int j) {
        if (!in(year, 0, 1) || !in(i, 0, 15) || !in(j, 0, 15)) {
            return -10001;
        }
        return squares(year).getOrDefault(100 * i + j, 100000);
    }

    /** The thirds, each as the keys of its corners. */
    private List<int[]> thirdsOf(Map<Integer, Integer> squares) {
        List<int[]> found = new ArrayList<>();
        for (int corner : squares.keySet()) {
            int far = corner + 101;
            if (squares.containsKey(corner + 1) && squares.containsKey(corner + 100) && squares.containsKey(far)) {
                found.add(new int[] {corner, corner + 100, far});
                found.add(new int[] {corner, corner + 1, far});
            }
        }
        return found;
    }

    long volume(int year, int level) {
        if (!in(year, 0, 1) || !in(level, -10000, 10000)) {
            return 0;
        }
        Map<Integer, Integer> squares = squares(year);
        long sum = 0;
        for (int[] third : thirdsOf(squares)) {
            for (int corner : third) {
                sum += 8 * (squares.get(corner) - level);
            }
        }
        return sum;
    }

    int thirds(int year) {
        return in(year, 0, 1) ? thirdsOf(squares(year)).size() : -1;
    }

    int lines(int year, int level, boolean closed) {
        if (!in(year, 0, 1) || !in(level, -10000, 10000)) {
            return -1;
        }
        Map<Integer, Integer> squares = squares(year);
        List<int[]> crossed = new ArrayList<>();
        for (int[] third : thirdsOf(squares)) {
            long above = Arrays.stream(third).filter(c -> squares.get(c) >= level).count();
            if (above == 1 || above == 2) {
                crossed.add(third);
            }
        }
        Map<Long, List<Integer>> byEdge = new HashMap<>();
        for (int k = 0; k < crossed.size(); k++) {
            for (int e = 0; e < 3; e++) {
                int c = crossed.get(k)[e];
                int d = crossed.get(k)[(e + 1) % 3];
                if (squares.get(c) >= level != squares.get(d) >= level) {
                    long edge = Math.min(c, d) * 10000L + Math.max(c, d);
                    byEdge.computeIfAbsent(edge, x -> new ArrayList<>()).add(k);
                }
            }
        }
        int[] part = new int[crossed.size()];
        for (int k = 0; k < part.length; k++) {
            part[k] = k;
        }
        boolean[] open = new boolean[crossed.size()];
        for (List<Integer> sharing : byEdge.values()) {
            if (sharing.size() == 2) {
                int from = part[sharing.get(0)];
                int to = part[sharing.get(1)];
                for (int k = 0; k < part.length; k++) {
                    part[k] = part[k] == from ? to : part[k];
                }
            }
        }
        for (List<Integer> sharing : byEdge.values()) {
            if (sharing.size() == 1) {
                open[part[sharing.get(0)]] = true;
            }
        }
        return (int) Arrays.stream(part).distinct().filter(k -> !closed || !open[k]).count();
    }

    int changed(int t, int what) {
        if (!in(t, 0, 1000) || !in(what, 0, 3)) {
            return -1000001;
        }
        Map<Integer, Integer> before = squares(0);
        Map<Integer, Integer> after = squares(1);
        int[] answers = new int[4];
        for (int s : before.keySet()) {
            if (after.containsKey(s)) {
                int rise = after.get(s) - before.get(s);
                answers[0]++;
                answers[1] += rise >= Math.max(t, 1) ? 1 : 0;
                answers[2] += -rise >= Math.max(t, 1) ? 1 : 0;
                answers[3] += rise;
            }
        }
        return answers[what];
    }

    int type(long w, int n) {
        if (!in(n, 1, 8)) {
            return -1;
        }
        String more = "";
        for (int k = 0; k < n; k++) {
            int value = (int) (w & 255);
            if (!in(value, 32, 126)) {
                return -1;
            }
            more = (char) value + more;
            w >>= 8;
        }
        if (tape.length() + n > 80) {
            return -3;
        }
        tape += more;
        return tape.length();
    }

    /** Cuts the tape into words (runs of digits, single other bytes) first, and looks at one word after the other. */
    int job(int year) {
        if (!in(year, 0, 1)) {
            return -1;
        }
        String text = tape;
        tape = "";
        List<String> words = new ArrayList<>();
        List<Integer> places = new ArrayList<>();
        java.util.regex.Matcher cut = java.util.regex.Pattern.compile("[0-9]+|[^ ]").matcher(text);
        while (cut.find()) {
            words.add(cut.group());
            places.add(cut.start());
        }
        words.add("");
        places.add(text.length());
        List<int[]> steps = new ArrayList<>();
        int at = 0;
        while (true) {
            String bounds = switch (words.get(at)) {
                case "F" -> "";
                case "G" -> "0-100,1-100,1-20";
                case "R" -> "0-50,3-40";
                default -> null;
            };
            if (bounds == null) {
                return -20 - places.get(at);
            }
            int[] step = {words.get(at).charAt(0), 0, 0, 0};
            at++;
            int k = 1;
            for (String bound : bounds.isEmpty() ? new String[0] : bounds.split(",")) {
                String word = words.get(at);
                int least = Integer.parseInt(bound.split("-")[0]);
                int most = Integer.parseInt(bound.split("-")[1]);
                if (!word.matches("[0-9]{1,4}") || !in(Integer.parseInt(word), least, most)) {
                    return -20 - places.get(at);
                }
                step[k++] = Integer.parseInt(word);
                at++;
            }
            steps.add(step);
            if (words.get(at).isEmpty()) {
                break;
            }
            if (!words.get(at).equals(";")) {
                return -20 - places.get(at);
            }
            at++;
        }
        int done = 0;
        for (int[] s : steps) {
            int answer = s[0] == 'F' ? fit(year) : s[0] == 'G' ? grow(year, s[1], s[2], s[3]) : roofs(year, s[1], s[2]);
            if (answer < 0) {
                break;
            }
            done++;
        }
        return done;
    }
}
