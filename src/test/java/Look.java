/**
 * All that can be seen of an object by its calls, as one text: objects in like states have like texts. A look at many
 * points takes more than the 512 calls that the document promises of an object; the class answers all calls alike.
 */
final class Look {
    /** Makes objects, always by the same calls, as some looks change what they look at. */
    interface Maker {
        RayGround make();
    }

    private static final int NO_ITEM = 40;

    private final StringBuilder seen = new StringBuilder();

    static String at(Maker maker) {
        Look look = new Look();
        look.years(maker.make());
        for (int sheet = 0; sheet < 4; sheet++) {
            look.row(maker.make(), sheet);
        }
        look.tape(maker.make());
        return look.seen.toString();
    }

    private void is(String what, long answer) {
        seen.append(what).append(' ').append(answer).append('\n');
    }

    private void years(RayGround g) {
        for (int year = 0; year < 2; year++) {
            points(g, year);
            shifts(g, year);
            for (int what = 0; what <= 13; what++) {
                is("year " + year + " count " + what, g.count(year, what));
            }
            for (int tile = 0; tile < 16; tile++) {
                int x = 16 * (tile % 4);
                int y = 16 * (tile / 4);
                is("year " + year + " tile " + tile, g.box(year, x, y, x + 15, y + 15));
            }
        }
    }

    private void points(RayGround g, int year) {
        for (int point = 0; point < g.count(year, 11); point++) {
            for (int what = 0; what <= 6; what++) {
                is("year " + year + " point " + point + " told " + what, g.told(year, point, what));
            }
        }
    }

    private void shifts(RayGround g, int year) {
        for (int strip = 0; strip < 4; strip++) {
            int was = g.shift(year, strip, 0);
            g.shift(year, strip, was);
            is("year " + year + " shift " + strip, was);
        }
    }

    // No row has an item 40, so that asking for it tells the lane and changes nothing.
    private void row(RayGround g, int sheet) {
        int lane = -1;
        for (int asked = 0; asked < 3; asked++) {
            int answer = g.item(sheet, asked, NO_ITEM, 0);
            is("sheet " + sheet + " as lane " + asked, answer);
            lane = answer == -13 ? asked : lane;
        }
        int size = 0;
        while (size < 40 && g.copy(sheet, size + 1, sheet, size + 1, 0) == 0) {
            size++;
        }
        is("sheet " + sheet + " items", size);
        if (lane >= 0) {
            items(g, sheet, lane, size);
        }
        is("sheet " + sheet + " dropped", g.drop(sheet));
    }

    // An item is seen as the z of a point of tile 15 of year 1, which must not be lost; the other tiles make room.
    private void items(RayGround g, int sheet, int lane, int size) {
        for (int tile = 0; tile < 15; tile++) {
            g.lose(1, tile);
        }
        int beside = (sheet + 1) % 4;
        g.sheet(beside, lane, 4);
        g.item(beside, lane, 0, 63);
        g.item(beside, lane, 1, 63);
        for (int i = 0; i < size; i++) {
            g.copy(sheet, i, beside, 2, 1);
            int came = g.points(1, beside, lane, 0, 1);
            is("sheet " + sheet + " item " + i, came < 0 ? came : g.told(1, came - 1, 2));
        }
    }

    // What a tape holds is seen by what its job does.
    private void tape(RayGround g) {
        is("the tape and a blank", g.type(' ', 1));
        is("the job", g.job(0));
        points(g, 0);
        shifts(g, 0);
    }
}
