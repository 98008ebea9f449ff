/**
 * Which of several refusals is answered: the first that a call names; NULL, CAST, INDEX, SIZE in this order, behind
 * BAD. And that nothing changes by any of them.
 */
final class OrderTest {
    private static final Due DUE = new Due("OrderTest");
    private static final Refused REFUSED = new Refused(DUE);
    private static final Look.Maker RICH = Scene::rich;
    private static final Look.Maker FULL = OrderTest::fullWithWrongRows;
    private static final int BAD = -1;
    private static final int NOT = -2;
    private static final int TOO_MANY = -3;
    private static final int NULL = -11;
    private static final int CAST = -12;
    private static final int INDEX = -13;
    private static final int SIZE = -14;

    public static void main(String[] args) {
        sheetOrder();
        dropOrder();
        itemOrder();
        copyOrder();
        pointsBad();
        pointsMachine();
        pointsNotAndFull();
        loseOrder();
        boxOrder();
        fitOrder();
        roofsOrder();
        typeOrder();
        jobOrder();
        numbersAlone();
        DUE.end();
    }

    /** Year 0 is full and has lost tile 15; sheet 0 has 40 bytes, the first of them no x; sheet 3 holds nothing. */
    private static RayGround fullWithWrongRows() {
        RayGround g = Scene.full();
        g.item(0, 0, 0, 64);
        g.item(2, 2, 4, 63);
        g.item(2, 2, 5, 63);
        g.lose(0, 15);
        return g;
    }

    private static void sheetOrder() {
        REFUSED.is("sheet: BAD sheet ahead of SIZE", RICH, BAD, g -> g.sheet(4, 0, -1));
        REFUSED.is("sheet: BAD lane ahead of SIZE", RICH, BAD, g -> g.sheet(0, 3, -1));
        REFUSED.is("sheet: BAD sheet, lane and n", RICH, BAD, g -> g.sheet(-1, -1, 41));
        REFUSED.is("sheet: SIZE alone", RICH, SIZE, g -> g.sheet(0, 0, -1));
    }

    private static void dropOrder() {
        REFUSED.is("drop: BAD ahead of NULL", RayGround::new, BAD, g -> g.drop(4));
        REFUSED.is("drop: NULL alone", RayGround::new, NULL, g -> g.drop(0));
    }

    private static void itemOrder() {
        REFUSED.is("item: BAD lane ahead of NULL", RICH, BAD, g -> g.item(3, 3, 0, 1));
        REFUSED.is("item: BAD lane ahead of CAST", RICH, BAD, g -> g.item(1, -1, 0, 1));
        REFUSED.is("item: BAD lane ahead of INDEX", RICH, BAD, g -> g.item(1, 3, 40, 1));
        REFUSED.is("item: BAD sheet ahead of INDEX", RICH, BAD, g -> g.item(4, 1, -1, 1));
        REFUSED.is("item: NULL ahead of INDEX", RICH, NULL, g -> g.item(3, 0, -1, 1));
        REFUSED.is("item: NULL alone, lane 0", RICH, NULL, g -> g.item(3, 0, 0, 1));
        REFUSED.is("item: NULL alone, lane 2", RICH, NULL, g -> g.item(3, 2, 0, 1));
        REFUSED.is("item: CAST ahead of INDEX", RICH, CAST, g -> g.item(1, 0, 40, 1));
        for (int sheet = 0; sheet < 3; sheet++) {
            int asked = sheet;
            REFUSED.is("item: CAST alone", RICH, CAST, g -> g.item(asked, (asked + 1) % 3, 0, 1));
            REFUSED.is("item: CAST alone", RICH, CAST, g -> g.item(asked, (asked + 2) % 3, 0, 1));
        }
    }

    private static void copyOrder() {
        REFUSED.is("copy: BAD from ahead of NULL", RICH, BAD, g -> g.copy(4, 0, 3, 0, 1));
        REFUSED.is("copy: BAD to ahead of NULL", RICH, BAD, g -> g.copy(3, 0, -1, 0, 1));
        REFUSED.is("copy: BAD from ahead of INDEX", RICH, BAD, g -> g.copy(-1, -1, 1, 0, 1));
        REFUSED.is("copy: BAD to ahead of INDEX", RICH, BAD, g -> g.copy(1, 0, 4, -1, -1));
        REFUSED.is("copy: NULL from, ahead of INDEX", RICH, NULL, g -> g.copy(3, 0, 1, 0, -1));
        REFUSED.is("copy: NULL to, ahead of INDEX", RICH, NULL, g -> g.copy(1, -1, 3, 0, 1));
        REFUSED.is("copy: NULL both", RICH, NULL, g -> g.copy(3, 0, 3, 0, 0));
        REFUSED.is("copy: NULL from alone", RICH, NULL, g -> g.copy(3, 0, 1, 0, 0));
        REFUSED.is("copy: NULL to alone", RICH, NULL, g -> g.copy(1, 0, 3, 0, 0));
        REFUSED.is("copy: CAST ahead of INDEX n", RICH, CAST, g -> g.copy(0, 0, 1, 0, -1));
        REFUSED.is("copy: CAST ahead of INDEX i", RICH, CAST, g -> g.copy(0, 9, 1, 0, 1));
        REFUSED.is("copy: CAST ahead of INDEX j", RICH, CAST, g -> g.copy(1, 0, 2, -1, 1));
        REFUSED.is("copy: CAST alone, of none", RICH, CAST, g -> g.copy(0, 0, 2, 0, 0));
        REFUSED.is("copy: CAST alone", RICH, CAST, g -> g.copy(2, 0, 1, 0, 1));
        REFUSED.is("copy: INDEX of the first alone", RICH, INDEX, g -> g.copy(1, 33, 1, 0, 8));
        REFUSED.is("copy: INDEX of the second alone", RICH, INDEX, g -> g.copy(1, 0, 1, 33, 8));
    }

    private static void pointsBad() {
        REFUSED.is("points: BAD year ahead of NULL", RICH, BAD, g -> g.points(2, 3, 0, 0, 1));
        REFUSED.is("points: BAD lane ahead of NULL", RICH, BAD, g -> g.points(0, 3, 3, 0, 1));
        REFUSED.is("points: BAD n ahead of NULL", RICH, BAD, g -> g.points(0, 3, 0, 0, 11));
        REFUSED.is("points: BAD n ahead of CAST", RICH, BAD, g -> g.points(0, 1, 0, 0, 0));
        REFUSED.is("points: BAD year ahead of CAST", RICH, BAD, g -> g.points(-1, 1, 0, 0, 1));
        REFUSED.is("points: BAD n ahead of INDEX", RICH, BAD, g -> g.points(0, 1, 1, -1, 11));
        REFUSED.is("points: BAD sheet ahead of INDEX", RICH, BAD, g -> g.points(0, 4, 1, -1, 1));
        REFUSED.is("points: BAD n ahead of NOT", FULL, BAD, g -> g.points(0, 0, 0, 0, 0));
        REFUSED.is("points: BAD n ahead of FULL", FULL, BAD, g -> g.points(0, 1, 1, 0, 11));
        REFUSED.is("points: BAD sheet ahead of FULL", FULL, BAD, g -> g.points(0, -1, 1, 0, 1));
    }

    private static void pointsMachine() {
        REFUSED.is("points: NULL ahead of INDEX", RICH, NULL, g -> g.points(0, 3, 0, -1, 1));
        REFUSED.is("points: NULL ahead of FULL", FULL, NULL, g -> g.points(0, 3, 0, 0, 1));
        REFUSED.is("points: NULL alone", RICH, NULL, g -> g.points(0, 3, 2, 0, 1));
        REFUSED.is("points: CAST ahead of INDEX", RICH, CAST, g -> g.points(0, 1, 0, 40, 1));
        REFUSED.is("points: CAST ahead of NOT", FULL, CAST, g -> g.points(0, 0, 1, 0, 1));
        REFUSED.is("points: CAST ahead of FULL", FULL, CAST, g -> g.points(0, 1, 2, 0, 1));
        REFUSED.is("points: CAST alone", RICH, CAST, g -> g.points(0, 1, 0, 0, 1));
        REFUSED.is("points: INDEX ahead of NOT", FULL, INDEX, g -> g.points(1, 0, 0, -1, 1));
        REFUSED.is("points: INDEX above, ahead of NOT", RICH, INDEX, g -> g.points(0, 0, 0, 1, 2));
        REFUSED.is("points: INDEX ahead of FULL", FULL, INDEX, g -> g.points(0, 1, 1, 37, 1));
        REFUSED.is("points: INDEX alone", RICH, INDEX, g -> g.points(0, 0, 0, 5, 1));
    }

    private static void pointsNotAndFull() {
        REFUSED.is("points: NOT as told ahead of FULL", FULL, NOT, g -> g.points(0, 0, 0, 0, 1));
        REFUSED.is("points: NOT, the last of ten, ahead of FULL", FULL, NOT, g -> {
            g.item(1, 1, 39, 4);
            long answer = g.points(0, 1, 1, 0, 10);
            g.item(1, 1, 39, 0);
            return answer;
        });
        REFUSED.is("points: NOT, of a tile that is lost, ahead of FULL", FULL, NOT, g -> g.points(0, 2, 2, 4, 1));
        REFUSED.is("points: NOT as told alone", FULL, NOT, g -> g.points(1, 0, 0, 0, 1));
        REFUSED.is("points: FULL alone", FULL, TOO_MANY, g -> g.points(0, 1, 1, 0, 1));
        REFUSED.is("points: FULL alone, of ten", FULL, TOO_MANY, g -> g.points(0, 1, 1, 0, 10));
    }

    private static void loseOrder() {
        REFUSED.is("lose: NOT alone, year 0", RICH, NOT, g -> g.lose(0, 5));
        REFUSED.is("lose: NOT alone, year 1", RICH, NOT, g -> g.lose(1, 6));
        REFUSED.is("lose: BAD year ahead of NOT", RICH, BAD, g -> g.lose(2, 5));
    }

    private static void boxOrder() {
        REFUSED.is("box: NOT alone", RICH, NOT, g -> g.box(0, 20, 20, 20, 20));
        REFUSED.is("box: BAD year ahead of NOT", RICH, BAD, g -> g.box(-1, 20, 20, 20, 20));
        REFUSED.is("box: BAD x0 ahead of NOT", RICH, BAD, g -> g.box(0, -1, 20, 20, 20));
        REFUSED.is("box: BAD y1 ahead of NOT", RICH, BAD, g -> g.box(0, 20, 20, 20, 64));
        REFUSED.is("box: BAD x1 below x0 ahead of NOT", RICH, BAD, g -> g.box(0, 21, 20, 20, 20));
        REFUSED.is("box: BAD y1 below y0 ahead of NOT", RICH, BAD, g -> g.box(0, 20, 21, 20, 20));
    }

    private static void fitOrder() {
        REFUSED.is("fit: BAD ahead of NOT", RayGround::new, BAD, g -> g.fit(2));
        REFUSED.is("fit: NOT, as strip 0 has no points", RayGround::new, NOT, g -> g.fit(0));
        REFUSED.is("fit: NOT, as more than one choice is least", RICH, NOT, g -> g.fit(0));
        REFUSED.is("fit: NOT, as a shift is beyond", () -> {
            RayGround g = Scene.rich();
            g.lose(1, 2);
            Due.put(g, 1, 1, 1, 3000, 0, 1, 1, 0, 1, 1, 1, 2990, 2, 1, 1, 2995, 3);
            return g;
        }, NOT, g -> g.fit(1));
    }

    private static void roofsOrder() {
        Look.Maker high = () -> Scene.high(41);
        REFUSED.is("roofs: FULL alone", high, TOO_MANY, g -> g.roofs(0, 0, 3));
        REFUSED.is("roofs: BAD t ahead of FULL", high, BAD, g -> g.roofs(0, 51, 3));
        REFUSED.is("roofs: BAD m ahead of FULL", high, BAD, g -> g.roofs(0, 0, 2));
        REFUSED.is("roofs: BAD year ahead of FULL", high, BAD, g -> g.roofs(2, 0, 3));
    }

    private static void typeOrder() {
        REFUSED.is("type: FULL alone", FULL, TOO_MANY, g -> g.type('F', 1));
        REFUSED.is("type: FULL alone, of 8", FULL, TOO_MANY, g -> g.type(0x4646464646464646L, 8));
        REFUSED.is("type: BAD n 0 ahead of FULL", FULL, BAD, g -> g.type('F', 0));
        REFUSED.is("type: BAD n 9 ahead of FULL", FULL, BAD, g -> g.type(0x4646464646464646L, 9));
        REFUSED.is("type: BAD byte ahead of FULL", FULL, BAD, g -> g.type(31, 1));
        REFUSED.is("type: BAD first byte ahead of FULL", FULL, BAD, g -> g.type(0x7f46464646464646L, 8));
    }

    private static void jobOrder() {
        Look.Maker faulty = () -> {
            RayGround g = Scene.rich();
            g.type('X', 1);
            return g;
        };
        REFUSED.is("job: BAD ahead of a fault, and the tape stays", faulty, BAD, g -> g.job(2));
        DUE.is("job: the fault then", faulty.make().job(0), -33);
        // A fault has made its tape empty. Year 0 can't be fitted, which a fault behind it is ahead of.
        Look.Maker bare = () -> {
            RayGround g = Scene.rich();
            g.type(';', 1);
            g.job(0);
            return g;
        };
        REFUSED.is("job: a fault ahead of NOT, and nothing is done", bare, -24, g -> Due.jobOf(g, 0, "F;F;"));
        REFUSED.is("job: a fault behind steps that could be done", bare, -36, g -> Due.jobOf(g, 0, "G 99 1 20;R 3 3;"));
        REFUSED.is("job: NOT at once, and nothing is done", bare, 0, g -> Due.jobOf(g, 0, "F;G 99 1 20;R 3 3"));
    }

    // Where a call names BAD alone, many numbers that are not as told are one BAD.
    private static void numbersAlone() {
        int least = Integer.MIN_VALUE;
        REFUSED.is("told: nothing is as told", RICH, -10001, g -> g.told(least, least, least));
        REFUSED.is("shift: nothing is as told", RICH, -10001, g -> g.shift(least, least, least));
        REFUSED.is("hand: nothing is as told", RICH, BAD, g -> g.hand(least, least, least));
        REFUSED.is("grow: nothing is as told", RICH, BAD, g -> g.grow(least, least, least, least));
        REFUSED.is("count: nothing is as told", RICH, BAD, g -> g.count(least, least));
        REFUSED.is("grid: nothing is as told", RICH, -10001, g -> g.grid(least, least, least));
        REFUSED.is("volume: nothing is as told", RICH, 0, g -> g.volume(least, least));
        REFUSED.is("lines: nothing is as told", RICH, BAD, g -> g.lines(least, least, true));
        REFUSED.is("changed: nothing is as told", RICH, -1000001, g -> g.changed(least, least));
    }
}
