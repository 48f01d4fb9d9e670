/** The edges that SHEETS and promises 45 to 48 name, sentence by sentence. */
public final class HostEdgesTest {
    private static final int BAD = Edges.BAD, NOTHING = Edges.NOTHING, OUTSIDE = Edges.OUTSIDE, UNLIKE = Edges.UNLIKE;
    private static final int BELOW = Edges.BELOW, LEAST = Edges.LEAST, GREATEST = Edges.GREATEST;
    private static final int BYTES = 0, SHORTS = 1, INTS = 2;
    private static final Edges edges = new Edges();

    public static void main(String[] args) {
        missing();
        sheet();
        sheetAgain();
        cell();
        lowestBits();
        copy();
        copyOfNone();
        copyOnItself();
        copyRefused();
        copyOrder();
        heights();
        heightsOfOthers();
        heightsOutside();
        heightsRefused();
        edges.end();
    }

    /** Items from one on as digits, the last first; 9 for what is no HEIGHT but 9. */
    private static long items(TruceLine x, int sheet, int sort, int from, int n) {
        for (int column = 0; column < 8; column++) x.height(column, 9);
        x.heights(0, sheet, sort, from, n);
        long told = 0;
        for (int column = n - 1; column >= 0; column--) told = told * 10 + x.cellTold(column, 0);
        return told;
    }

    private static void counted(TruceLine x, int sheet, int sort, int n) {
        x.sheet(sheet, sort, n);
        for (int i = 0; i < n; i++) x.cell(sheet, i, i % 9);
    }

    private static void missing() {
        edges.of("7 SHEETS 0 .. 3: missing at first");
        for (int sheet = 0; sheet < 4; sheet++) {
            int s = sheet;
            edges.refused("cell of SHEET " + s, NOTHING, x -> x.cell(s, 0, 1));
            edges.refused("copy of SHEET " + s, NOTHING, x -> x.copy(s, 0, s, 0, 0));
            edges.refused("heights of SHEET " + s, NOTHING, x -> x.heights(0, s, BYTES, 0, 1));
        }
    }

    private static void sheet() {
        edges.of("promise 45: a SHEET becomes a row of n of a sort, or missing: 1. BAD; -14");
        for (int sheet = 0; sheet < 4; sheet++) {
            int s = sheet;
            for (int sort = 0; sort < 3; sort++) {
                int t = sort;
                edges.is("the greatest n, SHEET " + s + " of sort " + t, 1, x -> x.sheet(s, t, 40));
                edges.is("its last item, SHEET " + s + " of sort " + t, 1, x -> x.sheet(s, t, 40), x -> x.cell(s, 39, 1));
                edges.is("none behind, SHEET " + s + " of sort " + t, OUTSIDE, x -> x.sheet(s, t, 40), x -> x.cell(s, 40, 1));
                edges.is("of none, SHEET " + s + " of sort " + t, 1, x -> x.sheet(s, t, 0));
                edges.is("no item in it, SHEET " + s + " of sort " + t, OUTSIDE, x -> x.sheet(s, t, 0), x -> x.cell(s, 0, 1));
                edges.is("of one, SHEET " + s + " of sort " + t, 1, x -> x.sheet(s, t, 1), x -> x.cell(s, 0, 1));
            }
        }
        edges.refused("a SHEET too small", BAD, x -> x.sheet(-1, BYTES, 5));
        edges.refused("a SHEET too large", BAD, x -> x.sheet(4, BYTES, 5));
        edges.refused("a sort too small", BAD, x -> x.sheet(0, -2, 5));
        edges.refused("a sort too large", BAD, x -> x.sheet(0, 3, 5));
        edges.refused("an n too large", BAD, x -> x.sheet(0, INTS, 41));
        edges.refused("the greatest n there is", BAD, x -> x.sheet(0, BYTES, GREATEST));
        edges.refused("a size below 0", BELOW, x -> x.sheet(0, BYTES, -1));
        edges.refused("a size far below 0", BELOW, x -> x.sheet(0, INTS, LEAST));
        edges.refused("no SHEET, a size below 0: BAD comes ahead", BAD, x -> x.sheet(4, BYTES, -1));
        edges.refused("no sort, a size below 0: BAD comes ahead", BAD, x -> x.sheet(0, 3, -1));
        edges.refused("no SHEET, missing", BAD, x -> x.sheet(4, -1, 5));
    }

    private static void sheetAgain() {
        edges.of("promise 45: all 0, or missing (sort -1: n does not matter)", x -> counted(x, 1, SHORTS, 5));
        edges.is("the same again: all 0", 0, x -> x.sheet(1, SHORTS, 5), x -> items(x, 1, SHORTS, 0, 5));
        edges.is("of another sort: all 0", 0, x -> x.sheet(1, INTS, 5), x -> items(x, 1, INTS, 0, 5));
        edges.is("less of it", OUTSIDE, x -> x.sheet(1, SHORTS, 2), x -> x.cell(1, 2, 1));
        edges.is("more of it: all 0", 0, x -> x.sheet(1, SHORTS, 8), x -> items(x, 1, SHORTS, 0, 8));
        edges.is("less, then more of it: all 0", 0, x -> {
            x.sheet(1, SHORTS, 1);
            x.sheet(1, SHORTS, 5);
        }, x -> items(x, 1, SHORTS, 0, 5));
        edges.is("missing", 1, x -> x.sheet(1, -1, 5));
        edges.is("missing, n below 0", 1, x -> x.sheet(1, -1, -1));
        edges.is("missing, n above 40", 1, x -> x.sheet(1, -1, 41));
        edges.is("missing it is", NOTHING, x -> x.sheet(1, -1, 41), x -> x.cell(1, 0, 1));
        edges.is("missing once more", 1, x -> x.sheet(1, -1, 0), x -> x.sheet(1, -1, LEAST));
        edges.is("missing, then there: all 0", 0, x -> {
            x.sheet(1, -1, 0);
            x.sheet(1, SHORTS, 5);
        }, x -> items(x, 1, SHORTS, 0, 5));
        edges.is("another one is missing still", NOTHING, x -> x.cell(0, 0, 1));
        edges.refused("a size below 0: it stays", BELOW, x -> x.sheet(1, SHORTS, -1));
        edges.refused("an n too large: it stays", BAD, x -> x.sheet(1, SHORTS, 41));
    }

    private static void cell() {
        edges.of("promise 46: item i becomes v: 1. BAD: no such SHEET; -11; -12", x -> counted(x, 3, INTS, 5));
        edges.is("the first", 1, x -> x.cell(3, 0, 7));
        edges.is("the last", 1, x -> x.cell(3, 4, 7));
        edges.is("both stand", 73217, x -> {
            x.cell(3, 0, 7);
            x.cell(3, 4, 7);
        }, x -> items(x, 3, INTS, 0, 5));
        edges.refused("an item too small", OUTSIDE, x -> x.cell(3, -1, 7));
        edges.refused("an item too large", OUTSIDE, x -> x.cell(3, 5, 7));
        edges.refused("the least item", OUTSIDE, x -> x.cell(3, LEAST, 7));
        edges.refused("the greatest item", OUTSIDE, x -> x.cell(3, GREATEST, 7));
        edges.refused("a SHEET too small", BAD, x -> x.cell(-1, 0, 7));
        edges.refused("a SHEET too large", BAD, x -> x.cell(4, 0, 7));
        edges.refused("no SHEET, an item too large: BAD comes ahead", BAD, x -> x.cell(4, 5, 7));
        edges.refused("a missing one", NOTHING, x -> x.cell(0, 0, 7));
        edges.refused("a missing one, an item too small: -11 comes ahead", NOTHING, x -> x.cell(0, -1, 7));
    }

    private static void becomes(String edge, int sort, int v, int want) {
        edges.is(edge, want, x -> {
            x.sheet(0, sort, 1);
            x.cell(0, 0, v);
        }, x -> items(x, 0, sort, 0, 1));
    }

    /** What is no HEIGHT leaves the 9 that stood there. */
    private static void lowestBits() {
        edges.of("promise 46: of bytes, shorts its lowest 8, 16 bits");
        becomes("a byte of 5", BYTES, 5, 5);
        becomes("a byte of 255", BYTES, 255, 9);
        becomes("a byte of 256", BYTES, 256, 0);
        becomes("a byte of 261", BYTES, 261, 5);
        becomes("a byte of -251", BYTES, -251, 5);
        becomes("a byte of 128", BYTES, 128, 9);
        becomes("a byte of 65536 and 3", BYTES, 65539, 3);
        becomes("a byte of the least int", BYTES, LEAST, 0);
        becomes("a short of 5", SHORTS, 5, 5);
        becomes("a short of 261", SHORTS, 261, 9);
        becomes("a short of 65535", SHORTS, 65535, 9);
        becomes("a short of 65536", SHORTS, 65536, 0);
        becomes("a short of 65541", SHORTS, 65541, 5);
        becomes("a short of -65531", SHORTS, -65531, 5);
        becomes("a short of 32768", SHORTS, 32768, 9);
        becomes("a short of the least int", SHORTS, LEAST, 0);
        becomes("an int of 5", INTS, 5, 5);
        becomes("an int of 65541", INTS, 65541, 9);
        becomes("an int of 261", INTS, 261, 9);
        becomes("the least int", INTS, LEAST, 9);
        becomes("the greatest int", INTS, GREATEST, 9);
    }

    private static void copy() {
        for (int sort = 0; sort < 3; sort++) {
            int t = sort;
            edges.of("promise 47: n numbers come to another one's item j on: n, sort " + t, x -> {
                counted(x, 0, t, 6);
                x.sheet(1, t, 8);
            });
            edges.is("one", 1, x -> x.copy(0, 5, 1, 7, 1));
            edges.is("the last to the last", 50000000L, x -> x.copy(0, 5, 1, 7, 1), x -> items(x, 1, t, 0, 8));
            edges.is("the first to the first", 0, x -> {
                x.cell(1, 0, 9);
                x.copy(0, 0, 1, 0, 1);
            }, x -> items(x, 1, t, 0, 8));
            edges.is("all", 6, x -> x.copy(0, 0, 1, 2, 6));
            edges.is("all of them to the end", 54321000L, x -> x.copy(0, 0, 1, 2, 6), x -> items(x, 1, t, 0, 8));
            edges.is("they stay where they were", 543210L, x -> x.copy(0, 0, 1, 2, 6), x -> items(x, 0, t, 0, 6));
            edges.refused("1 behind the end of the first", OUTSIDE, x -> x.copy(0, 1, 1, 0, 6));
            edges.refused("1 behind the end of the other one", OUTSIDE, x -> x.copy(0, 0, 1, 3, 6));
            edges.refused("more than there are", OUTSIDE, x -> x.copy(0, 0, 1, 0, 7));
        }
        edges.of("promise 47: numbers as they are", x -> {
            x.sheet(0, INTS, 40);
            x.sheet(3, INTS, 40);
            x.cell(0, 39, 65541);
            x.cell(0, 38, 5);
        });
        edges.is("40", 40, x -> x.copy(0, 0, 3, 0, 40));
        edges.is("the last two", 95, x -> x.copy(0, 0, 3, 0, 40), x -> items(x, 3, INTS, 38, 2));
    }

    private static void copyOfNone() {
        edges.of("promise 47: n is 0", x -> {
            counted(x, 0, BYTES, 6);
            x.sheet(1, BYTES, 0);
        });
        edges.refused("from the first", 0, x -> x.copy(0, 0, 1, 0, 0));
        edges.refused("from behind the last", 0, x -> x.copy(0, 6, 1, 0, 0));
        edges.refused("to behind the last", 0, x -> x.copy(1, 0, 0, 6, 0));
        edges.refused("an empty one onto itself", 0, x -> x.copy(1, 0, 1, 0, 0));
        edges.refused("from 1 more behind", OUTSIDE, x -> x.copy(0, 7, 1, 0, 0));
        edges.refused("to 1 more behind", OUTSIDE, x -> x.copy(0, 0, 1, 1, 0));
        edges.refused("from 1 ahead", OUTSIDE, x -> x.copy(0, -1, 1, 0, 0));
        edges.refused("to 1 ahead", OUTSIDE, x -> x.copy(0, 0, 1, -1, 0));
    }

    private static void copyOnItself() {
        for (int sort = 0; sort < 3; sort++) {
            int t = sort;
            edges.of("promise 47: (as they were), onto itself, sort " + t, x -> counted(x, 0, t, 6));
            edges.is("1 place on", 432100L, x -> x.copy(0, 0, 0, 1, 5), x -> items(x, 0, t, 0, 6));
            edges.is("1 place back", 554321L, x -> x.copy(0, 1, 0, 0, 5), x -> items(x, 0, t, 0, 6));
            edges.is("2 places on", 321010L, x -> x.copy(0, 0, 0, 2, 4), x -> items(x, 0, t, 0, 6));
            edges.is("side by side", 210210L, x -> x.copy(0, 0, 0, 3, 3), x -> items(x, 0, t, 0, 6));
            edges.refused("all to where they are", 6, x -> x.copy(0, 0, 0, 0, 6));
        }
    }

    private static void copyRefused() {
        edges.of("promise 47: -12 (also with n below 0)", x -> {
            counted(x, 0, BYTES, 6);
            counted(x, 1, BYTES, 6);
        });
        edges.refused("n is -1", OUTSIDE, x -> x.copy(0, 1, 1, 1, -1));
        edges.refused("the least n", OUTSIDE, x -> x.copy(0, 0, 1, 0, LEAST));
        edges.refused("the greatest n", OUTSIDE, x -> x.copy(0, 0, 1, 0, GREATEST));
        edges.refused("i too small", OUTSIDE, x -> x.copy(0, -1, 1, 0, 2));
        edges.refused("i too large", OUTSIDE, x -> x.copy(0, 6, 1, 0, 1));
        edges.refused("the greatest i", OUTSIDE, x -> x.copy(0, GREATEST, 1, 0, 2));
        edges.refused("the least i", OUTSIDE, x -> x.copy(0, LEAST, 1, 0, 2));
        edges.refused("j too small", OUTSIDE, x -> x.copy(0, 0, 1, -1, 2));
        edges.refused("j too large", OUTSIDE, x -> x.copy(0, 0, 1, 6, 1));
        edges.refused("the greatest j", OUTSIDE, x -> x.copy(0, 0, 1, GREATEST, 2));
        edges.refused("the greatest of all three: none wraps around", OUTSIDE,
            x -> x.copy(0, GREATEST, 1, GREATEST, GREATEST));
        edges.refused("the least of all three: none wraps around", OUTSIDE, x -> x.copy(0, LEAST, 1, LEAST, LEAST));
        edges.refused("i and n that add up to 0", OUTSIDE, x -> x.copy(0, LEAST, 1, 0, LEAST));
    }

    private static void copyOrder() {
        edges.of("promise 47: BAD: no such SHEET; -11; -13: they are of unlike sorts; -12", x -> {
            counted(x, 0, BYTES, 6);
            counted(x, 1, SHORTS, 6);
            counted(x, 2, INTS, 6);
        });
        edges.refused("a SHEET too small", BAD, x -> x.copy(-1, 0, 0, 0, 1));
        edges.refused("a SHEET too large", BAD, x -> x.copy(4, 0, 0, 0, 1));
        edges.refused("another one too small", BAD, x -> x.copy(0, 0, -1, 0, 1));
        edges.refused("another one too large", BAD, x -> x.copy(0, 0, 4, 0, 1));
        edges.refused("BAD ahead of -11", BAD, x -> x.copy(3, 0, 4, 0, 1));
        edges.refused("from a missing one", NOTHING, x -> x.copy(3, 0, 0, 0, 1));
        edges.refused("to a missing one", NOTHING, x -> x.copy(0, 0, 3, 0, 1));
        edges.refused("both are missing", NOTHING, x -> x.copy(3, 0, 3, 0, 0));
        edges.refused("-11 ahead of -12", NOTHING, x -> x.copy(0, 9, 3, 9, -1));
        for (int from = 0; from < 3; from++) {
            for (int to = 0; to < 3; to++) {
                int i = from;
                int j = to;
                if (i == j) continue;
                edges.refused("sorts " + i + " and " + j, UNLIKE, x -> x.copy(i, 0, j, 0, 1));
                edges.refused("sorts " + i + " and " + j + ", none", UNLIKE, x -> x.copy(i, 0, j, 0, 0));
                edges.refused("sorts " + i + " and " + j + ", -13 ahead of -12", UNLIKE, x -> x.copy(i, 7, j, 7, -1));
            }
        }
    }

    private static void heights() {
        edges.of("promise 48: HEIGHTS of a row's CELLS, column 0 first, n of them (0 .. 8)", x -> {
            counted(x, 0, INTS, 40);
            for (int cell = 0; cell < 64; cell++) x.height(cell, 4);
        });
        edges.is("none", 0, x -> x.heights(0, 0, INTS, 0, 0));
        edges.is("none changes none", 4, x -> x.heights(0, 0, INTS, 0, 0), x -> x.cellTold(0, 0));
        edges.is("none, from outside", 0, x -> x.heights(0, 0, INTS, -1, 0));
        edges.is("none, from behind", 0, x -> x.heights(0, 0, INTS, 41, 0));
        edges.is("one", 1, x -> x.heights(7, 0, INTS, 8, 1));
        edges.is("one stands in column 0", 8, x -> x.heights(7, 0, INTS, 8, 1), x -> x.cellTold(56, 0));
        edges.is("one leaves column 1", 4, x -> x.heights(7, 0, INTS, 8, 1), x -> x.cellTold(57, 0));
        edges.is("a whole row", 8, x -> x.heights(7, 0, INTS, 32, 8));
        edges.is("its column 7 by the last item", 39 % 9, x -> x.heights(7, 0, INTS, 32, 8), x -> x.cellTold(63, 0));
        edges.is("its column 0", 32 % 9, x -> x.heights(7, 0, INTS, 32, 8), x -> x.cellTold(56, 0));
        edges.is("the row ahead is as it was", 4, x -> x.heights(7, 0, INTS, 32, 8), x -> x.cellTold(55, 0));
        edges.is("the row behind is as it was", 4, x -> x.heights(0, 0, INTS, 0, 8), x -> x.cellTold(8, 0));
    }

    private static void heightsOfOthers() {
        edges.of("promise 48: one that is not 0 .. 9 leaves its CELL as it is: how many were told", x -> {
            x.sheet(0, INTS, 8);
            int[] items = {0, 9, 10, -1, LEAST, GREATEST, 5, 100};
            for (int i = 0; i < 8; i++) x.cell(0, i, items[i]);
            for (int cell = 0; cell < 8; cell++) x.height(cell, 4);
        });
        int[] told = {0, 9, 4, 4, 4, 4, 5, 4};
        edges.is("three of 8", 3, x -> x.heights(0, 0, INTS, 0, 8));
        edges.is("two of the first two", 2, x -> x.heights(0, 0, INTS, 0, 2));
        edges.is("none of the next four", 0, x -> x.heights(0, 0, INTS, 2, 4));
        for (int column = 0; column < 8; column++) {
            int c = column;
            edges.is("column " + c, told[c], x -> x.heights(0, 0, INTS, 0, 8), x -> x.cellTold(c, 0));
        }
    }

    private static void heightsOutside() {
        edges.of("promise 48: -12: what stood ahead was told", x -> {
            counted(x, 0, BYTES, 3);
            for (int cell = 0; cell < 8; cell++) x.height(cell, 4);
        });
        edges.is("1 behind the last", OUTSIDE, x -> x.heights(0, 0, BYTES, 1, 3));
        edges.is("the first of them was told", 1, x -> x.heights(0, 0, BYTES, 1, 3), x -> x.cellTold(0, 0));
        edges.is("the second of them was told", 2, x -> x.heights(0, 0, BYTES, 1, 3), x -> x.cellTold(1, 0));
        edges.is("the third is as it was", 4, x -> x.heights(0, 0, BYTES, 1, 3), x -> x.cellTold(2, 0));
        edges.is("all that there are", 3, x -> x.heights(0, 0, BYTES, 0, 3));
        edges.refused("from behind the last: none was told", OUTSIDE, x -> x.heights(0, 0, BYTES, 3, 1));
        edges.refused("from 1 ahead: none was told", OUTSIDE, x -> x.heights(0, 0, BYTES, -1, 3));
        edges.refused("from the least", OUTSIDE, x -> x.heights(0, 0, BYTES, LEAST, 8));
        edges.refused("from the greatest: it does not wrap around", OUTSIDE, x -> x.heights(0, 0, BYTES, GREATEST, 8));
        edges.refused("of an empty one", OUTSIDE, x -> {
            x.sheet(0, BYTES, 0);
            int answer = x.heights(0, 0, BYTES, 0, 1);
            counted(x, 0, BYTES, 3);
            return answer;
        });
    }

    private static void heightsRefused() {
        edges.of("promise 48: BAD: no such row, SHEET, sort, n; -13; -11; -12", x -> {
            counted(x, 0, BYTES, 8);
            counted(x, 1, SHORTS, 8);
            counted(x, 2, INTS, 8);
        });
        edges.refused("a row too small", BAD, x -> x.heights(-1, 0, BYTES, 0, 1));
        edges.refused("a row too large", BAD, x -> x.heights(8, 0, BYTES, 0, 1));
        edges.refused("a SHEET too small", BAD, x -> x.heights(0, -1, BYTES, 0, 1));
        edges.refused("a SHEET too large", BAD, x -> x.heights(0, 4, BYTES, 0, 1));
        edges.refused("a sort too small: missing is none", BAD, x -> x.heights(0, 0, -1, 0, 1));
        edges.refused("a sort too large", BAD, x -> x.heights(0, 0, 3, 0, 1));
        edges.refused("an n too small", BAD, x -> x.heights(0, 0, BYTES, 0, -1));
        edges.refused("an n too large", BAD, x -> x.heights(0, 0, BYTES, 0, 9));
        edges.refused("BAD ahead of -13", BAD, x -> x.heights(0, 0, INTS, 0, 9));
        edges.refused("BAD ahead of -11", BAD, x -> x.heights(0, 3, INTS, 0, 9));
        for (int sheet = 0; sheet < 3; sheet++) {
            for (int sort = 0; sort < 3; sort++) {
                int s = sheet;
                int t = sort;
                edges.refused("a missing one for sort " + t, NOTHING, x -> x.heights(0, 3, t, 0, 1));
                if (s == t) continue;
                edges.refused("sort " + s + " for " + t, UNLIKE, x -> x.heights(0, s, t, 0, 8));
                edges.refused("sort " + s + " for " + t + ", none", UNLIKE, x -> x.heights(0, s, t, 0, 0));
                edges.refused("sort " + s + " for " + t + ", -13 ahead of -12", UNLIKE, x -> x.heights(0, s, t, 9, 1));
            }
        }
        edges.refused("a missing one, none", NOTHING, x -> x.heights(0, 3, BYTES, 0, 0));
        edges.refused("a missing one, -11 ahead of -12", NOTHING, x -> x.heights(0, 3, BYTES, -1, 1));
    }
}
