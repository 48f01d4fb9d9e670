/** The edges that THE ZONE and promises 1 to 5 name, sentence by sentence. */
public final class ZoneEdgesTest {
    private static final int BAD = Edges.BAD, LEAST = Edges.LEAST, GREATEST = Edges.GREATEST;
    private static final Edges edges = new Edges();

    public static void main(String[] args) {
        cellsOfTheZone();
        heightsAtFirst();
        theLine();
        far();
        strip();
        apart();
        hours();
        night();
        newObject();
        height();
        line();
        set();
        cellTold();
        edges.end();
    }

    private static void cellsOfTheZone() {
        edges.of("1 THE ZONE: 64 CELLS, column modulo 8, row by 8", x -> {
            x.line(0, 1);
            x.line(7, 7);
        });
        edges.is("the first CELL is in column 0 of row 0", 0, x -> x.cellTold(0, 1));
        edges.is("CELL 1 is in column 1 of it", 1, x -> x.cellTold(1, 1));
        edges.is("CELL 7 is the last of row 0", 6, x -> x.cellTold(7, 2));
        edges.is("CELL 8 is the first of row 1", 3, x -> x.cellTold(8, 2));
        edges.is("CELL 62 is in column 6 of row 7", 0, x -> x.cellTold(62, 1));
        edges.is("the last CELL is in column 7 of it", 1, x -> x.cellTold(63, 1));
    }

    private static void heightsAtFirst() {
        edges.of("1 HEIGHTS are 0 .. 9, 0 at first");
        for (int cell = 0; cell < 64; cell++) {
            int c = cell;
            edges.is("CELL " + c, 0, x -> x.cellTold(c, 0));
            edges.is("the greatest comes to CELL " + c, 9, x -> x.height(c, 9), x -> x.height(c, 0));
        }
    }

    private static void theLine() {
        edges.of("1 THE LINE: row by row 0 .. 8, 4 at first; columns below it are SIDE 0's");
        for (int row = 0; row < 8; row++) {
            int y = row;
            edges.is("4 at first in row " + y, 4, x -> x.line(y, 4));
            edges.is("column 3 at first in row " + y, 0, x -> x.cellTold(8 * y + 3, 1));
            edges.is("column 4 at first in row " + y, 1, x -> x.cellTold(8 * y + 4, 1));
        }
        edges.is("at 0: all are SIDE 1's", 8, x -> x.line(2, 0), x -> sum(x, 16, 1));
        edges.is("at 1: one is SIDE 0's", 7, x -> x.line(2, 1), x -> sum(x, 16, 1));
        edges.is("at 7: one is SIDE 1's", 1, x -> x.line(2, 7), x -> sum(x, 16, 1));
        edges.is("at 8: all are SIDE 0's", 0, x -> x.line(2, 8), x -> sum(x, 16, 1));
    }

    private static void far() {
        edges.of("1 FAR: how many CELLS of its row and SIDE are between it and THE LINE");
        edges.is("0 left of it", 0, x -> x.cellTold(3, 2));
        edges.is("0 right of it", 0, x -> x.cellTold(4, 2));
        edges.is("3 to the left", 3, x -> x.cellTold(0, 2));
        edges.is("3 to the right", 3, x -> x.cellTold(7, 2));
        edges.is("7, with all of SIDE 1", 7, x -> x.line(0, 0), x -> x.cellTold(7, 2));
        edges.is("0, with all of SIDE 1", 0, x -> x.line(0, 0), x -> x.cellTold(0, 2));
        edges.is("7, with all of SIDE 0", 7, x -> x.line(0, 8), x -> x.cellTold(0, 2));
        edges.is("0, with all of SIDE 0", 0, x -> x.line(0, 8), x -> x.cellTold(7, 2));
        edges.is("by THE LINE of its own row", 3, x -> x.line(1, 8), x -> x.cellTold(0, 2));
    }

    private static void strip() {
        edges.of("1 THE STRIP: all CELLS less FAR than WIDTH, 0 .. 4, 1 at first");
        edges.is("1 at first: FAR 0 is in it", 1, x -> x.cellTold(4, 3));
        edges.is("1 at first: FAR 1 is not", 0, x -> x.cellTold(5, 3));
        edges.is("0: no CELL of a row is in it", 0, x -> x.set(0, 0), x -> sum(x, 0, 3));
        edges.is("1: two of a row", 2, x -> sum(x, 0, 3));
        edges.is("3: six of a row", 6, x -> x.set(0, 3), x -> sum(x, 0, 3));
        edges.is("4: a whole row", 8, x -> x.set(0, 4), x -> sum(x, 0, 3));
        edges.is("4, with all of SIDE 1: four of a row", 4, x -> {
            x.set(0, 4);
            x.line(0, 0);
        }, x -> sum(x, 0, 3));
        edges.is("4, with all of SIDE 0: four of a row", 4, x -> {
            x.set(0, 4);
            x.line(0, 8);
        }, x -> sum(x, 0, 3));
    }

    /** A MARK of EAR 0 hears a gun that is 4 APART at most. */
    private static void apart() {
        edges.of("1 APART: the greater of how many columns and rows", x -> {
            x.mark(0, 0, 0, 0);
            x.report(0, 0, 0, 1);
        });
        edges.is("0 APART", 1, x -> x.doing(0, 0, 0), x -> x.left());
        edges.is("4 columns", 1, x -> x.doing(0, 4, 0), x -> x.left());
        edges.is("5 columns", 0, x -> x.doing(0, 5, 0), x -> x.left());
        edges.is("4 rows", 1, x -> x.doing(0, 32, 0), x -> x.left());
        edges.is("5 rows", 0, x -> x.doing(0, 40, 0), x -> x.left());
        edges.is("4 and 4", 1, x -> x.doing(0, 36, 0), x -> x.left());
        edges.is("5 columns and 1 row", 0, x -> x.doing(0, 13, 0), x -> x.left());
        edges.is("1 column and 5 rows", 0, x -> x.doing(0, 41, 0), x -> x.left());
        edges.is("the next row's first is not beside the last", 0, x -> {
            x.mark(0, 0, 7, 0);
            x.takeBack(0);
            x.report(1, 0, 0, 1);
            x.doing(0, 8, 0);
        }, x -> x.left());
    }

    private static void hours() {
        edges.of("1 HOURS are 0 .. 999", x -> x.mark(3, 0, 5, 0));
        edges.is("the first", 5, x -> x.at(0, 0));
        edges.is("the last", 5, x -> x.at(0, 999));
        edges.refused("one too small", BAD, x -> x.at(0, -1));
        edges.refused("one too large", BAD, x -> x.at(0, 1000));
        edges.refused("the least int", BAD, x -> x.at(0, LEAST));
        edges.refused("the greatest int", BAD, x -> x.at(0, GREATEST));
    }

    private static void night() {
        edges.of("1 night is if the HOUR modulo 24 is below 6 or above 19", x -> x.mark(1, 0, 5, 0));
        int[] nights = {0, 5, 20, 23, 24, 29, 44, 47, 48, 960, 965, 980, 983, 984, 989};
        int[] days = {6, 19, 30, 43, 54, 966, 979, 990, 999};
        for (int hour : nights) edges.is("night in HOUR " + hour, 2, x -> x.sight(0, hour));
        for (int hour : days) edges.is("day in HOUR " + hour, 3, x -> x.sight(0, hour));
    }

    private static void newObject() {
        edges.of("promise 1: a flat ZONE, no MARKS");
        edges.is("no MARKS", 0, x -> x.count(0));
        for (int what = 1; what < 7; what++) {
            int w = what;
            edges.is("nothing of what " + w, 0, x -> x.count(w));
        }
        edges.is("TEXT 0 alone", 1, x -> x.count(7));
        edges.is("an empty TAPE", 0, x -> x.count(8));
        for (int which = 0; which < 3; which++) {
            int w = which;
            edges.is("TEXT 0 is force's " + w, 0, x -> x.count(9 + w));
        }
        edges.is("WIDTH 1", 1, x -> x.set(0, 1));
        edges.is("MIST 0", 0, x -> x.set(1, 0));
        edges.is("no LISTS", 0, x -> x.alone(0) | x.alone(1) | x.alone(-1));
        for (int sheet = 0; sheet < 4; sheet++) {
            int s = sheet;
            edges.refused("SHEET " + s + " is missing", Edges.NOTHING, x -> x.cell(s, 0, 0));
        }
        edges.refused("MARK 0 is none", BAD, x -> x.markTold(0, 0));
    }

    private static void height() {
        edges.of("promise 2: HEIGHT of a CELL: what it was. BAD", x -> x.height(63, 4));
        edges.is("what it was", 4, x -> x.height(63, 0));
        edges.is("what it was, the same again", 4, x -> x.height(63, 4));
        edges.is("the least HEIGHT stands", 0, x -> x.height(63, 0), x -> x.cellTold(63, 0));
        edges.is("the greatest HEIGHT stands", 9, x -> x.height(63, 9), x -> x.cellTold(63, 0));
        edges.is("the CELL beside is as it was", 0, x -> x.height(63, 9), x -> x.cellTold(62, 0));
        edges.refused("a HEIGHT too small", BAD, x -> x.height(63, -1));
        edges.refused("a HEIGHT too large", BAD, x -> x.height(63, 10));
        edges.refused("a CELL too small", BAD, x -> x.height(-1, 5));
        edges.refused("a CELL too large", BAD, x -> x.height(64, 5));
        edges.refused("the least numbers", BAD, x -> x.height(LEAST, LEAST));
        edges.refused("the greatest numbers", BAD, x -> x.height(GREATEST, GREATEST));
    }

    private static void line() {
        edges.of("promise 3: SHIFTED: what it was. BAD", x -> x.line(7, 2));
        edges.is("what it was", 2, x -> x.line(7, 8));
        edges.is("what it was, the same again", 2, x -> x.line(7, 2));
        edges.is("the least place stands", 0, x -> x.line(7, 0), x -> x.line(7, 5));
        edges.is("the greatest place stands", 8, x -> x.line(7, 8), x -> x.line(7, 5));
        edges.is("the first row", 4, x -> x.line(0, 8));
        edges.is("the row beside is as it was", 4, x -> x.line(7, 8), x -> x.line(6, 4));
        edges.refused("a place too small", BAD, x -> x.line(7, -1));
        edges.refused("a place too large", BAD, x -> x.line(7, 9));
        edges.refused("a row too small", BAD, x -> x.line(-1, 4));
        edges.refused("a row too large", BAD, x -> x.line(8, 4));
        edges.refused("the least numbers", BAD, x -> x.line(LEAST, LEAST));
        edges.refused("the greatest numbers", BAD, x -> x.line(GREATEST, GREATEST));
    }

    private static void set() {
        edges.of("promise 4: WIDTH, MIST: what it was. BAD", x -> {
            x.set(0, 3);
            x.set(1, 2);
        });
        edges.is("what WIDTH was", 3, x -> x.set(0, 0));
        edges.is("what MIST was", 2, x -> x.set(1, 0));
        edges.is("the least WIDTH stands", 0, x -> x.set(0, 0), x -> x.set(0, 1));
        edges.is("the greatest WIDTH stands", 4, x -> x.set(0, 4), x -> x.set(0, 1));
        edges.is("the least MIST stands", 0, x -> x.set(1, 0), x -> x.set(1, 1));
        edges.is("the greatest MIST stands", 5, x -> x.set(1, 5), x -> x.set(1, 1));
        edges.is("MIST is not WIDTH", 2, x -> x.set(0, 4), x -> x.set(1, 2));
        edges.refused("a WIDTH too small", BAD, x -> x.set(0, -1));
        edges.refused("a WIDTH too large", BAD, x -> x.set(0, 5));
        edges.refused("a MIST too small", BAD, x -> x.set(1, -1));
        edges.refused("a MIST too large", BAD, x -> x.set(1, 6));
        edges.refused("a what too small", BAD, x -> x.set(-1, 1));
        edges.refused("a what too large", BAD, x -> x.set(2, 1));
        edges.refused("the greatest numbers", BAD, x -> x.set(GREATEST, GREATEST));
    }

    private static void cellTold() {
        edges.of("promise 5: of a CELL HEIGHT, SIDE, FAR, THE STRIP. BAD", x -> x.height(63, 9));
        edges.is("HEIGHT of the last", 9, x -> x.cellTold(63, 0));
        edges.is("SIDE of the last", 1, x -> x.cellTold(63, 1));
        edges.is("FAR of the last", 3, x -> x.cellTold(63, 2));
        edges.is("STRIP of the last", 0, x -> x.cellTold(63, 3));
        edges.is("STRIP of one at THE LINE", 1, x -> x.cellTold(60, 3));
        for (int what = 0; what < 4; what++) {
            int w = what;
            edges.refused("a CELL too small, what " + w, BAD, x -> x.cellTold(-1, w));
            edges.refused("a CELL too large, what " + w, BAD, x -> x.cellTold(64, w));
        }
        edges.refused("a what too small", BAD, x -> x.cellTold(0, -1));
        edges.refused("a what too large", BAD, x -> x.cellTold(0, 4));
        edges.refused("the greatest numbers", BAD, x -> x.cellTold(GREATEST, GREATEST));
    }

    private static int sum(TruceLine x, int first, int what) {
        int sum = 0;
        for (int cell = first; cell < first + 8; cell++) sum += x.cellTold(cell, what);
        return sum;
    }
}
