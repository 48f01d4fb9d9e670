/**
 * All that can be asked of an object: first what changes nothing, then THE TAPE and the SHEETS (told as HEIGHTS).
 * For an object that is used no more; some 360 calls.
 */
final class Told {
    private static final int[] SOME_HOURS = {0, 13, 999};

    private Told() {
    }

    static String of(TruceLine x) {
        StringBuilder s = new StringBuilder();
        for (int what = 0; what < 12; what++) s.append(x.count(what)).append(' ');
        addZone(s, x);
        for (int m = 0; m < x.count(0); m++) addMark(s, x, m);
        for (int hour : SOME_HOURS) {
            s.append(x.breaches(-1, hour)).append(' ').append(x.breaches(0, hour)).append(' ');
            s.append(x.astray(hour)).append(' ').append(x.late(hour)).append(' ').append(x.look(hour)).append(" | ");
        }
        s.append(x.left()).append(' ').append(x.standing()).append(' ').append(x.strength(0)).append(' ');
        s.append(x.alone(0)).append(' ').append(x.alone(1)).append(' ').append(x.may(5, 17, 10)).append(' ');
        s.append(x.blame(0)).append(' ').append(x.cover(1, 12, 0)).append(' ').append(x.cover(1, 12, 1)).append(" | ");
        for (int sheet = 0; sheet < 4; sheet++) addSheet(s, x, sheet);
        addTape(s, x);
        return s.toString();
    }

    private static void addZone(StringBuilder s, TruceLine x) {
        s.append("| ");
        for (int cell = 0; cell < 64; cell++) s.append(x.cellTold(cell, 0));
        for (int row = 0; row < 8; row++) {
            s.append(' ').append(x.cellTold(8 * row, 1)).append(x.cellTold(8 * row, 2)).append(x.cellTold(8 * row, 3));
        }
        s.append(" | ");
    }

    private static void addMark(StringBuilder s, TruceLine x, int m) {
        for (int what = 0; what < 6; what++) s.append(x.markTold(m, what)).append(' ');
        s.append(x.at(m, 0)).append(' ').append(x.at(m, 5)).append(' ').append(x.sight(m, 0)).append(" | ");
    }

    private static void addSheet(StringBuilder s, TruceLine x, int sheet) {
        for (int sort = 0; sort < 3; sort++) {
            int sortTold = x.heights(0, sheet, sort, 0, 0);
            s.append(sortTold).append(' ');
            if (sortTold != 0) continue;
            for (int cell = 0; cell < 8; cell++) x.height(cell, 0);
            s.append(x.heights(0, sheet, sort, 0, 8)).append(':');
            for (int cell = 0; cell < 8; cell++) s.append(x.cellTold(cell, 0));
            s.append(' ');
        }
    }

    /** What the bytes on THE TAPE are shows only in the TEXT or the FAULT that comes of them. */
    private static void addTape(StringBuilder s, TruceLine x) {
        int text = x.text();
        s.append("| ").append(text);
        if (text < 0 || x.mark(1, 0, 27, 3) < 0) return;
        x.force(2, text);
        s.append(' ').append(x.says(0, 5, 0, 0)).append(' ').append(x.says(0, 5, 1, 0));
    }
}
