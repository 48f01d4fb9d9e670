/** The edges that SEES and promises 12 and 13 name, sentence by sentence. */
public final class SeeingEdgesTest {
    private static final int LEAST = Edges.LEAST, GREATEST = Edges.GREATEST;
    private static final long NO = Edges.NO;
    private static final int POST = 1, PATROL = 3, BATTERY = 5;
    private static final int DAY = 12, NIGHT = 0;
    private static final Edges edges = new Edges();

    public static void main(String[] args) {
        gone();
        asFarAsSight();
        atTheRim();
        nothingBetween();
        higherThanBoth();
        everyCellOnTheWay();
        cutTowardsZero();
        fromItsOwnOn();
        sees();
        view();
        edges.end();
    }

    /** Whether MARK 0 SEES a CELL by day. */
    private static long seesCell(TruceLine x, int cell) {
        return x.sees(0, DAY) >>> cell & 1;
    }

    private static void hides(String edge, int hill, int cell) {
        edges.is(edge + ", hill in " + hill, 0, x -> x.height(hill, 1), x -> seesCell(x, cell));
    }

    private static void leaves(String edge, int hill, int cell) {
        edges.is(edge + ", hill in " + hill, 1, x -> x.height(hill, 9), x -> seesCell(x, cell));
    }

    private static void gone() {
        edges.of("2 a MARK SEES a CELL, if it isn't GONE", x -> x.mark(POST, 0, 27, 0));
        edges.is("its own CELL, too", 0, x -> x.gone(0, 1), x -> x.sees(0, DAY));
        edges.is("it is back", 1, x -> {
            x.gone(0, 1);
            x.gone(0, 0);
        }, x -> seesCell(x, 27));
    }

    private static void asFarAsSight() {
        edges.of("2 SEES: the CELL is at most SIGHT APART from its own", x -> x.mark(POST, 0, 27, 0));
        edges.is("0 APART", 1, x -> seesCell(x, 27));
        edges.is("SIGHT APART in its row", 1, x -> seesCell(x, 30));
        edges.is("1 more", 0, x -> seesCell(x, 31));
        edges.is("SIGHT APART to the left", 1, x -> seesCell(x, 24));
        edges.is("SIGHT APART in its column", 1, x -> seesCell(x, 51));
        edges.is("1 more down", 0, x -> seesCell(x, 59));
        edges.is("SIGHT APART up", 1, x -> seesCell(x, 3));
        edges.is("SIGHT APART in both", 1, x -> seesCell(x, 54));
        edges.is("1 more in both", 0, x -> seesCell(x, 63));
        edges.is("by night 2 APART", 1, x -> x.sees(0, NIGHT) >>> 29 & 1);
        edges.is("by night 3 APART", 0, x -> x.sees(0, NIGHT) >>> 30 & 1);
        edges.is("SIGHT 0: its own alone", 1L << 27, x -> x.set(1, 5), x -> x.sees(0, DAY));
        edges.is("SIGHT 4: 4 APART", 1, x -> x.height(27, 5), x -> seesCell(x, 63));
    }

    private static void atTheRim() {
        edges.of("2 SEES: at the rim of THE ZONE", x -> {
            x.mark(BATTERY, 0, 0, 0);
            x.mark(BATTERY, 0, 7, 0);
            x.mark(BATTERY, 0, 56, 0);
            x.mark(BATTERY, 0, 63, 0);
            x.mark(BATTERY, 0, 8, 0);
        });
        edges.is("the first CELL", 0x0303L, x -> x.sees(0, DAY));
        edges.is("the last of row 0 sees none of row 1's first", 0xC0C0L, x -> x.sees(1, DAY));
        edges.is("the first of row 7", 0x0303L << 48, x -> x.sees(2, DAY));
        edges.is("the last CELL: its bit is the highest", 0xC0C0L << 48, x -> x.sees(3, DAY));
        edges.is("the first of row 1 sees none of row 0's last", 0x030303L, x -> x.sees(4, DAY));
    }

    private static void nothingBetween() {
        edges.of("2 SEES: with n APART, k from 1 to n - 1: none for 0 and 1", x -> {
            x.mark(POST, 0, 27, 0);
            for (int cell = 0; cell < 64; cell++) x.height(cell, 9);
            x.height(27, 0);
            x.height(28, 0);
            x.height(36, 0);
            x.height(30, 0);
            x.height(29, 0);
        });
        edges.is("its own CELL", 1, x -> seesCell(x, 27));
        edges.is("a low CELL beside it", 1, x -> seesCell(x, 28));
        edges.is("a low CELL across the corner", 1, x -> seesCell(x, 36));
        edges.is("a high CELL beside it", 1, x -> seesCell(x, 26));
        edges.is("one CELL between", 1, x -> seesCell(x, 29));
        edges.is("one high CELL between", 0, x -> x.height(28, 9), x -> seesCell(x, 29));
        edges.is("two CELLS between", 1, x -> seesCell(x, 30));
        edges.is("the second is high", 0, x -> x.height(29, 9), x -> seesCell(x, 30));
    }

    private static void higher(String edge, int own, int between, int looked, int want) {
        edges.is(edge, want, x -> {
            x.height(27, own);
            x.height(28, between);
            x.height(29, looked);
        }, x -> seesCell(x, 29));
    }

    private static void higherThanBoth() {
        edges.of("2 SEES: the CELL is not higher than both its own and the one looked at", x -> x.mark(POST, 0, 27, 0));
        higher("all are as high", 4, 4, 4, 1);
        higher("1 higher than both", 4, 5, 4, 0);
        higher("as high as its own", 5, 5, 4, 1);
        higher("as high as the one looked at", 4, 5, 5, 1);
        higher("higher than its own alone", 0, 5, 9, 1);
        higher("higher than the one looked at alone", 9, 5, 0, 1);
        higher("1 higher than the higher one", 4, 6, 5, 0);
        higher("lower than both", 4, 3, 4, 1);
        higher("the greatest between the least", 0, 9, 0, 0);
        higher("the greatest of all", 9, 9, 9, 1);
        higher("1 higher than 8", 8, 9, 8, 0);
    }

    private static void everyCellOnTheWay() {
        edges.of("2 SEES: for k from 1 to n - 1", x -> {
            x.mark(POST, 0, 0, 0);
            x.height(0, 5);
            x.height(4, 4);
        });
        for (int k = 1; k < 4; k++) {
            int hill = k;
            edges.is("4 APART, place " + k + " is higher", 0, x -> x.height(hill, 6), x -> seesCell(x, 4));
            edges.is("4 APART, place " + k + " is as high", 1, x -> x.height(hill, 5), x -> seesCell(x, 4));
        }
        edges.is("its own CELL is not in the way", 1, x -> x.height(0, 9), x -> seesCell(x, 4));
        edges.is("the one looked at is not in the way", 1, x -> x.height(4, 9), x -> seesCell(x, 4));
        edges.is("nor one behind it", 1, x -> x.height(5, 9), x -> seesCell(x, 4));
    }

    private static void cutTowardsZero() {
        edges.of("2 SEES: of columns and rows each the difference times k by n, cut towards 0", x -> x.mark(POST, 0, 27, 0));
        hides("3 right, 1 up: first in its own row", 28, 22);
        hides("3 right, 1 up: then too", 29, 22);
        leaves("3 right, 1 up", 20, 22);
        leaves("3 right, 1 up", 21, 22);
        hides("3 right, 1 down: first in its own row", 28, 38);
        hides("3 right, 1 down: then too", 29, 38);
        leaves("3 right, 1 down", 37, 38);
        hides("3 left, 2 up: first in its own row", 26, 8);
        hides("3 left, 2 up: then one up", 17, 8);
        leaves("3 left, 2 up", 18, 8);
        leaves("3 left, 2 up", 9, 8);
        hides("3 left, 2 down: first in its own row", 26, 40);
        hides("3 left, 2 down: then one down", 33, 40);
        leaves("3 left, 2 down", 34, 40);
        leaves("3 left, 2 down", 41, 40);
        hides("2 up, 1 left: in its own column", 19, 10);
        leaves("2 up, 1 left", 18, 10);
        hides("2 down, 1 left: in its own column", 35, 42);
        leaves("2 down, 1 left", 34, 42);
        hides("3 down, 2 right: first in its own column", 35, 53);
        hides("3 down, 2 right: then one right", 44, 53);
        leaves("3 down, 2 right", 36, 53);
        leaves("3 down, 2 right", 45, 53);
        hides("across the corner", 36, 45);
        hides("across the corner, up", 18, 9);
    }

    private static void fromItsOwnOn() {
        edges.of("2 SEES: on the way, from its own on", x -> {
            x.mark(POST, 0, 27, 0);
            x.mark(POST, 0, 22, 0);
            x.height(28, 1);
        });
        edges.is("there it is hidden", 0, x -> seesCell(x, 22));
        edges.is("back it is not", 1, x -> x.sees(1, DAY) >>> 27 & 1);
        edges.is("back it is by another CELL", 0, x -> x.height(21, 1), x -> x.sees(1, DAY) >>> 27 & 1);
    }

    private static void sees() {
        edges.of("promise 12: CELLS that a MARK SEES. NO: no such", x -> {
            x.mark(PATROL, 0, 27, 0);
            x.walk(0, 0);
            x.walk(0, 63);
        });
        edges.is("in HOUR 0, by night", 0x0303L, x -> x.sees(0, 0));
        edges.is("in HOUR 999, by day", 0xE0E0E0L << 40, x -> x.sees(0, 999));
        edges.is("one that is GONE SEES none", 0, x -> x.gone(0, 1), x -> x.sees(0, 0));
        edges.refused("a MARK too small", NO, x -> x.sees(-1, 0));
        edges.refused("a MARK too large", NO, x -> x.sees(1, 0));
        edges.refused("an HOUR too small", NO, x -> x.sees(0, -1));
        edges.refused("an HOUR too large", NO, x -> x.sees(0, 1000));
        edges.refused("the least numbers", NO, x -> x.sees(LEAST, LEAST));
        edges.refused("the greatest numbers", NO, x -> x.sees(GREATEST, GREATEST));
    }

    private static void view() {
        edges.of("promise 13: CELLS that a SIDE (0 .. 2) SEES. NO", x -> {
            x.mark(BATTERY, 0, 0, 0);
            x.mark(BATTERY, 0, 63, 0);
            x.mark(BATTERY, 2, 1, 0);
        });
        edges.is("of both its MARKS", 0x0303L | 0xC0C0L << 48, x -> x.view(0, DAY));
        edges.is("of no MARKS", 0, x -> x.view(1, DAY));
        edges.is("of the watchers", 0x0707L, x -> x.view(2, 999));
        edges.is("without one that is GONE", 0x0303L, x -> x.gone(1, 1), x -> x.view(0, DAY));
        edges.is("of all that are GONE", 0, x -> x.gone(2, 1), x -> x.view(2, DAY));
        edges.refused("a SIDE too small", NO, x -> x.view(-1, 0));
        edges.refused("a SIDE too large", NO, x -> x.view(3, 0));
        edges.refused("an HOUR too small", NO, x -> x.view(0, -1));
        edges.refused("an HOUR too large", NO, x -> x.view(0, 1000));
        edges.refused("the greatest numbers", NO, x -> x.view(GREATEST, GREATEST));
    }
}
