/** Promises 34 to 37: list, cover, drawBack, strength. */
public final class CoverTest {
    private static final Due due = new Due();

    public static void main(String[] args) {
        listing();
        covering();
        strengths();
        drawing();
        refusedGuns();
        sixteen();
        due.end();
    }

    private static void listing() {
        TruceLine x = new TruceLine();
        due.is("list(-1)", x.list(-1), -2);
        due.is("list(64)", x.list(64), -2);
        for (int i = 1; i <= 10; i++) due.is("list " + i, x.list(i < 9 ? 0 : 63), i);
        due.is("an 11th", x.list(0), -4);
        due.is("a wrong 11th", x.list(64), -2);
        due.is("count", x.count(6), 10);
        due.is("two alike are as one", x.cover(2, 12, 0), 257);
        due.is("all ten", x.cover(10, 12, 0), 1023);
        due.is("CELLS of all ten", x.cover(10, 12, 1), 32);
    }

    private static void covering() {
        TruceLine x = new TruceLine();
        due.is("none of none", x.cover(0, 0, 0), 0);
        due.is("one of none", x.cover(1, 0, 0), -1);
        x.list(0);
        x.list(27);
        x.list(36);
        x.list(63);
        due.is("none of four", x.cover(0, 0, 0), 0);
        due.is("CELLS of none", x.cover(0, 0, 1), 0);
        due.is("one of four: of like ones the least", x.cover(1, 12, 0), 2);
        due.is("CELLS of one", x.cover(1, 12, 1), 49);
        due.is("two of four", x.cover(2, 12, 0), 6);
        due.is("CELLS of two", x.cover(2, 12, 1), 62);
        due.is("CELLS by night", x.cover(1, 0, 1), 25);
        due.is("two by night", x.cover(2, 0, 0), 6);
        due.is("CELLS of two by night", x.cover(2, 0, 1), 34);
        due.is("three by night", x.cover(3, 0, 0), 7);
        x.set(1, 3);
        due.is("in mist", x.cover(2, 12, 0), 3);
        due.is("CELLS in mist", x.cover(2, 12, 1), 2);
        x.height(63, 5);
        due.is("from a hill in mist", x.cover(2, 12, 0), 9);
        due.is("five of four", x.cover(5, 12, 0), -1);
        due.is("n -1", x.cover(-1, 12, 0), -2);
        due.is("n 11", x.cover(11, 12, 0), -2);
        due.is("hour 1000", x.cover(1, 1000, 0), -2);
        due.is("hour -1", x.cover(1, -1, 0), -2);
        due.is("what 2", x.cover(1, 12, 2), -2);
        due.is("what -1", x.cover(1, 12, -1), -2);
        due.is("five of four, what 2", x.cover(5, 12, 2), -2);
    }

    private static void strengths() {
        TruceLine x = new TruceLine();
        for (int kind = 0; kind < 6; kind++) x.mark(kind, 0, 0, 1 << kind);
        x.mark(2, 1, 0, 99);
        x.mark(5, 2, 0, 50);
        due.is("strength(0)", x.strength(0), 4 + 32);
        due.is("strength(1)", x.strength(1), 99);
        due.is("strength(2)", x.strength(2), 50);
        x.gone(5, 1);
        due.is("one is gone", x.strength(0), 4);
        x.gone(5, 0);
        due.is("it is back", x.strength(0), 36);
        due.is("strength(3)", x.strength(3), -2);
        due.is("strength(-1)", x.strength(-1), -2);
    }

    private static void order(TruceLine x, int guns, int apart, int... want) {
        due.is("how many", x.drawBack(guns, apart, -1), want.length);
        for (int i = 0; i < want.length; i++) due.is("drawn " + i, x.drawBack(guns, apart, i), want[i]);
        due.is("none behind", x.drawBack(guns, apart, want.length), -1);
        due.is("none ahead", x.drawBack(guns, apart, -2), -1);
    }

    private static void drawing() {
        TruceLine x = new TruceLine();
        x.mark(2, 0, 0, 10);
        x.mark(2, 0, 0, 20);
        x.mark(5, 1, 0, 20);
        x.mark(2, 1, 0, 10);
        order(x, 0, 0);
        order(x, 15, 60, 0, 1, 2, 3);
        order(x, 15, 30, 0, 1, 2, 3);
        order(x, 15, 20, 0, 2, 1, 3);
        order(x, 15, 10, 0, 2, 1, 3);
        due.is("9 apart", x.drawBack(15, 9, -1), -1);
        due.is("9 apart, the first", x.drawBack(15, 9, 0), -1);
        order(x, 3, 30, 0, 1);
        due.is("all of one side", x.drawBack(3, 29, -1), -1);
        order(x, 6, 20, 1, 2);
        due.is("nothing was drawn", x.strength(0) + x.strength(1), 60);
        x.gone(3, 1);
        due.is("unlike at first", x.drawBack(0, 9, -1), -1);
        order(x, 0, 10);
        order(x, 7, 30, 0, 1, 2);
        order(x, 7, 10, 1, 2, 0);
        for (int i = 0; i < 5; i++) x.mark(2, 1, 0, 0);
        order(x, 7 + 16 + 32 + 64 + 128, 10, 1, 2, 0, 4, 5, 6, 7);
    }

    private static void sixteen() {
        TruceLine x = new TruceLine();
        for (int m = 0; m < 16; m++) x.mark(m % 3 == 0 ? 2 : 5, m % 2, 0, m);
        due.is("strength of eight", x.strength(0), 56);
        due.is("strength of the others", x.strength(1), 64);
        order(x, 7 << 13, 9, 13, 14, 15);
        order(x, 127 << 9, 30, 9, 10, 11, 12, 13, 14, 15);
        due.is("seven ends 15 apart", x.drawBack(127 << 9, 9, -1), 7);
    }

    private static void refusedGuns() {
        TruceLine x = new TruceLine();
        for (int m = 0; m < 8; m++) x.mark(2, m % 2, 0, 1);
        x.mark(1, 0, 0, 1);
        x.mark(2, 2, 0, 1);
        due.is("seven", x.drawBack(127, 9999, -1), 7);
        due.is("eight", x.drawBack(255, 9999, -1), -2);
        due.is("a POST", x.drawBack(256, 9, -1), -2);
        due.is("a watchers' one", x.drawBack(512, 9, -1), -2);
        due.is("no MARK", x.drawBack(1024, 9, -1), -2);
        due.is("below 0", x.drawBack(-1, 9, -1), -2);
        due.is("least", x.drawBack(Integer.MIN_VALUE, 9, -1), -2);
        due.is("apart -1", x.drawBack(1, -1, -1), -2);
        due.is("apart 10000", x.drawBack(1, 10000, -1), -2);
        x.gone(0, 1);
        due.is("one that is gone", x.drawBack(1, 9, -1), -2);
        due.is("without it", x.drawBack(2, 9, 0), 1);
    }
}
