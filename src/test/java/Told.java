/**
 * What can be asked of an object without changing it, and then its SHEETS (told as HEIGHTS):
 * for an object that is used no more.
 */
final class Told {
    private static final int[] SOME_HOURS = {0, 13, 999};

    private Told() {
    }

    static String of(TruceLine x) {
        StringBuilder s = new StringBuilder();
        for (int what = 0; what < 12; what++) s.append(x.count(what)).append(' ');
        s.append("| ");
        for (int cell = 0; cell < 64; cell++) s.append(x.cellTold(cell, 0)).append(x.cellTold(cell, 2)).append(' ');
        s.append(x.cellTold(0, 1)).append(x.cellTold(3, 3)).append(x.cellTold(2, 3)).append(" | ");
        for (int m = 0; m < x.count(0); m++) {
            for (int what = 0; what < 6; what++) s.append(x.markTold(m, what)).append(' ');
            s.append(x.at(m, 0)).append(' ').append(x.at(m, 5)).append(' ').append(x.sight(m, 0)).append(" | ");
        }
        for (int hour : SOME_HOURS) {
            s.append(x.breaches(-1, hour)).append(' ').append(x.breaches(0, hour)).append(' ');
            s.append(x.astray(hour)).append(' ').append(x.late(hour)).append(' ').append(x.look(hour)).append(" | ");
        }
        s.append(x.left()).append(' ').append(x.standing()).append(' ').append(x.strength(0)).append(' ');
        s.append(x.alone(0)).append(' ').append(x.alone(1)).append(' ').append(x.may(5, 17, 10)).append(' ');
        s.append(x.blame(0)).append(' ').append(x.cover(1, 12, 0)).append(' ').append(x.cover(1, 12, 1)).append(" | ");
        for (int sheet = 0; sheet < 4; sheet++) addSheet(s, x, sheet);
        return s.toString();
    }

    private static void addSheet(StringBuilder s, TruceLine x, int sheet) {
        for (int sort = 0; sort < 3; sort++) {
            for (int cell = 0; cell < 8; cell++) x.height(cell, 0);
            s.append(x.heights(0, sheet, sort, 0, 8)).append(':');
            for (int cell = 0; cell < 8; cell++) s.append(x.cellTold(cell, 0));
            s.append(' ');
        }
    }
}
