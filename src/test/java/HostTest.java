/** Promises 45 to 48: sheet, cell, copy, heights. */
public final class HostTest {
    private static final Due due = new Due();

    public static void main(String[] args) {
        sheets();
        cells();
        narrowCells();
        copies();
        ownCopies();
        refusedCopies();
        heights();
        refusedHeights();
        due.end();
    }

    private static void row(String what, TruceLine x, int sheet, int sort, int from, int... want) {
        for (int column = 0; column < want.length; column++) x.height(column, 0);
        due.is(what + ": how many", x.heights(0, sheet, sort, from, want.length), want.length);
        for (int i = 0; i < want.length; i++) due.is(what + ": item " + (from + i), x.cellTold(i, 0), want[i]);
    }

    private static void sheets() {
        TruceLine x = new TruceLine();
        due.is("SHEET -1", x.sheet(-1, 0, 1), -2);
        due.is("SHEET 4", x.sheet(4, 0, 1), -2);
        due.is("sort -2", x.sheet(0, -2, 1), -2);
        due.is("sort 3", x.sheet(0, 3, 1), -2);
        due.is("n 41", x.sheet(0, 0, 41), -2);
        due.is("n -1", x.sheet(0, 0, -1), -14);
        due.is("n least", x.sheet(0, 2, Integer.MIN_VALUE), -14);
        due.is("n -1, sort 3", x.sheet(0, 3, -1), -2);
        due.is("still missing", x.cell(0, 0, 1), -11);
        due.is("n 40", x.sheet(0, 0, 40), 1);
        due.is("n 0", x.sheet(1, 1, 0), 1);
        due.is("no place in it", x.cell(1, 0, 1), -12);
        due.is("item 39", x.cell(0, 39, 7), 1);
        row("item 39", x, 0, 0, 39, 7);
        due.is("again", x.sheet(0, 0, 40), 1);
        row("all 0", x, 0, 0, 36, 0, 0, 0, 0);
        due.is("missing, n of no matter", x.sheet(0, -1, -9), 1);
        due.is("missing, n of no matter", x.sheet(0, -1, 99), 1);
        due.is("missing now", x.cell(0, 0, 1), -11);
        due.is("missing for heights", x.heights(0, 0, 0, 0, 1), -11);
        due.is("SHEET 3", x.sheet(3, 2, 5), 1);
        due.is("SHEET 2 is missing", x.cell(2, 0, 0), -11);
    }

    private static void cells() {
        TruceLine x = new TruceLine();
        x.sheet(0, 2, 5);
        due.is("SHEET 4", x.cell(4, 0, 0), -2);
        due.is("SHEET -1", x.cell(-1, 0, 0), -2);
        due.is("missing", x.cell(1, 0, 0), -11);
        due.is("missing, outside", x.cell(1, -1, 0), -11);
        due.is("item -1", x.cell(0, -1, 0), -12);
        due.is("item 5", x.cell(0, 5, 0), -12);
        for (int i = 0; i < 5; i++) due.is("item " + i, x.cell(0, i, i + 1), 1);
        row("ints", x, 0, 2, 0, 1, 2, 3, 4, 5);
    }

    private static void narrowCells() {
        TruceLine x = new TruceLine();
        for (int sort = 0; sort < 3; sort++) {
            x.sheet(sort, sort, 4);
            x.cell(sort, 0, 256 + 3);
            x.cell(sort, 1, 65536 + 4);
            x.cell(sort, 2, -65536 + 5);
            x.cell(sort, 3, Integer.MIN_VALUE);
        }
        due.is("bytes", x.heights(0, 0, 0, 0, 4), 4);
        due.is("3 of bytes", x.cellTold(0, 0), 3);
        due.is("4 of bytes", x.cellTold(1, 0), 4);
        due.is("5 of bytes", x.cellTold(2, 0), 5);
        due.is("0 of bytes", x.cellTold(3, 0), 0);
        due.is("shorts", x.heights(1, 1, 1, 0, 4), 3);
        due.is("none of shorts", x.cellTold(8, 0), 0);
        due.is("4 of shorts", x.cellTold(9, 0), 4);
        due.is("5 of shorts", x.cellTold(10, 0), 5);
        due.is("ints", x.heights(2, 2, 2, 0, 4), 0);
        x.cell(0, 0, 128);
        due.is("a byte below 0", x.heights(0, 0, 0, 0, 1), 0);
        x.cell(1, 0, 32768);
        due.is("a short below 0", x.heights(0, 1, 1, 0, 1), 0);
    }

    private static TruceLine counted(int sort, int n) {
        TruceLine x = new TruceLine();
        x.sheet(0, sort, n);
        x.sheet(1, sort, n);
        for (int i = 0; i < n; i++) x.cell(0, i, i + 1);
        return x;
    }

    private static void copies() {
        for (int sort = 0; sort < 3; sort++) {
            TruceLine x = counted(sort, 6);
            due.is("copy of 3", x.copy(0, 1, 1, 2, 3), 3);
            row("copied", x, 1, sort, 0, 0, 0, 2, 3, 4, 0);
            row("as before", x, 0, sort, 0, 1, 2, 3, 4, 5, 6);
            due.is("copy of all", x.copy(0, 0, 1, 0, 6), 6);
            row("all copied", x, 1, sort, 0, 1, 2, 3, 4, 5, 6);
            due.is("copy of none", x.copy(0, 0, 1, 0, 0), 0);
            due.is("copy of none at the end", x.copy(0, 6, 1, 6, 0), 0);
        }
    }

    private static void ownCopies() {
        TruceLine x = counted(0, 6);
        due.is("down", x.copy(0, 0, 0, 1, 5), 5);
        row("as they were", x, 0, 0, 0, 1, 1, 2, 3, 4, 5);
        due.is("up", x.copy(0, 2, 0, 0, 4), 4);
        row("as they were", x, 0, 0, 0, 2, 3, 4, 5, 4, 5);
    }

    private static void refusedCopies() {
        TruceLine x = counted(0, 6);
        x.sheet(2, 1, 6);
        due.is("SHEET -1", x.copy(-1, 0, 0, 0, 1), -2);
        due.is("SHEET 4", x.copy(0, 0, 4, 0, 1), -2);
        due.is("missing and none such", x.copy(3, 0, 4, 0, 1), -2);
        due.is("from a missing one", x.copy(3, 0, 0, 0, 1), -11);
        due.is("to a missing one", x.copy(0, 0, 3, 0, 1), -11);
        due.is("to a missing one, outside", x.copy(0, 9, 3, 0, -1), -11);
        due.is("unlike", x.copy(0, 0, 2, 0, 1), -13);
        due.is("unlike, outside", x.copy(0, 9, 2, 0, 1), -13);
        due.is("n -1", x.copy(0, 0, 1, 0, -1), -12);
        due.is("n least", x.copy(0, 0, 1, 0, Integer.MIN_VALUE), -12);
        due.is("i -1", x.copy(0, -1, 1, 0, 1), -12);
        due.is("j -1", x.copy(0, 0, 1, -1, 1), -12);
        due.is("from beyond", x.copy(0, 1, 1, 0, 6), -12);
        due.is("to beyond", x.copy(0, 0, 1, 1, 6), -12);
        due.is("far beyond", x.copy(0, Integer.MAX_VALUE, 1, 0, 2), -12);
        due.is("to far beyond", x.copy(0, 0, 1, Integer.MAX_VALUE, 2), -12);
        due.is("too many", x.copy(0, 0, 1, 0, Integer.MAX_VALUE), -12);
        due.is("7 of 6", x.copy(0, 0, 1, 0, 7), -12);
        row("nothing copied", x, 1, 0, 0, 0, 0, 0, 0, 0, 0);
    }

    private static void heights() {
        TruceLine x = new TruceLine();
        x.sheet(0, 1, 40);
        int[] items = {9, 10, -1, 0, 5, 300, 7, 1};
        for (int i = 0; i < 8; i++) x.cell(0, 32 + i, items[i]);
        for (int cell = 0; cell < 64; cell++) x.height(cell, 2);
        due.is("a row", x.heights(7, 0, 1, 32, 8), 5);
        int[] want = {9, 2, 2, 0, 5, 2, 7, 1};
        for (int i = 0; i < 8; i++) due.is("height of " + (56 + i), x.cellTold(56 + i, 0), want[i]);
        due.is("the row above", x.cellTold(55, 0), 2);
        due.is("the first row", x.cellTold(0, 0), 2);
        due.is("n 0", x.heights(0, 0, 1, 0, 0), 0);
        due.is("two of them", x.heights(0, 0, 1, 38, 2), 2);
        due.is("first", x.cellTold(0, 0), 7);
        due.is("second", x.cellTold(1, 0), 1);
        due.is("third", x.cellTold(2, 0), 2);
        due.is("beyond", x.heights(1, 0, 1, 38, 3), -12);
        due.is("told ahead of that", x.cellTold(8, 0), 7);
        due.is("told ahead of that", x.cellTold(9, 0), 1);
        due.is("not told", x.cellTold(10, 0), 2);
        due.is("from -1", x.heights(2, 0, 1, -1, 3), -12);
        due.is("nothing told", x.cellTold(16, 0) + x.cellTold(17, 0), 4);
        due.is("from 40", x.heights(2, 0, 1, 40, 1), -12);
        due.is("from the greatest", x.heights(2, 0, 1, Integer.MAX_VALUE, 8), -12);
        due.is("from the least", x.heights(2, 0, 1, Integer.MIN_VALUE, 8), -12);
    }

    private static void refusedHeights() {
        TruceLine x = new TruceLine();
        x.sheet(0, 0, 8);
        due.is("row -1", x.heights(-1, 0, 0, 0, 1), -2);
        due.is("row 8", x.heights(8, 0, 0, 0, 1), -2);
        due.is("SHEET -1", x.heights(0, -1, 0, 0, 1), -2);
        due.is("SHEET 4", x.heights(0, 4, 0, 0, 1), -2);
        due.is("sort -1", x.heights(0, 0, -1, 0, 1), -2);
        due.is("sort 3", x.heights(0, 0, 3, 0, 1), -2);
        due.is("n -1", x.heights(0, 0, 0, 0, -1), -2);
        due.is("n 9", x.heights(0, 0, 0, 0, 9), -2);
        due.is("missing, n 9", x.heights(0, 1, 0, 0, 9), -2);
        for (int sort = 0; sort < 3; sort++) {
            due.is("missing for sort " + sort, x.heights(0, 1, sort, 0, 1), -11);
            due.is("missing, outside", x.heights(0, 1, sort, -1, 1), -11);
        }
        due.is("unlike", x.heights(0, 0, 2, 0, 1), -13);
        due.is("unlike, outside", x.heights(0, 0, 1, -1, 1), -13);
        due.is("unlike, of none", x.heights(0, 0, 1, 0, 0), -13);
    }
}
