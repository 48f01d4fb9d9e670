/** The edges that COVER, DRAWN BACK and promises 34 to 37 name, sentence by sentence. */
public final class PlansEdgesTest {
    private static final int BAD = Edges.BAD, FULL = Edges.FULL, NONE = Edges.NONE;
    private static final int LEAST = Edges.LEAST, GREATEST = Edges.GREATEST;
    private static final int POST = 1, GUN = 2, PATROL = 3, BATTERY = 5;
    private static final int DAY = 12, NIGHT = 0, MANY = -1;
    private static final Edges edges = new Edges();

    public static void main(String[] args) {
        list();
        coverOfAll();
        coverOfLike();
        coverByPosts();
        cover();
        guns();
        noGuns();
        oneByOne();
        leastFirst();
        places();
        apart();
        strength();
        edges.end();
    }

    private static void cells(TruceLine x, int... cells) {
        for (int cell : cells) x.list(cell);
    }

    private static void list() {
        edges.of("promise 34: a CELL more of the list: how many. BAD; FULL (10 at most)", x -> {
            for (int i = 0; i < 9; i++) x.list(i);
        });
        edges.is("the 10th, the least CELL, once more", 10, x -> x.list(0));
        edges.is("the 10th, the greatest CELL", 10, x -> x.list(63));
        edges.is("the 10th counts", 512, x -> {
            x.list(63);
            x.set(1, 3);
            x.height(63, 9);
        }, x -> x.cover(1, DAY, 0));
        edges.refused("a CELL too small", BAD, x -> x.list(-1));
        edges.refused("a CELL too large", BAD, x -> x.list(64));
        edges.refused("the least", BAD, x -> x.list(LEAST));
        edges.refused("the greatest", BAD, x -> x.list(GREATEST));
        edges.of("promise 34: FULL, with all 10", x -> {
            for (int i = 0; i < 10; i++) x.list(i);
        });
        edges.refused("an 11th", FULL, x -> x.list(5));
        edges.refused("an 11th that is no CELL: BAD comes ahead", BAD, x -> x.list(64));
        edges.of("promise 34: the first");
        edges.is("there is one then", 1, x -> x.list(0));
    }

    private static void coverOfAll() {
        edges.of("5 COVER: n are chosen of a list of 10 at most", x -> cells(x, 0, 1, 2, 3, 4, 5, 6, 7, 56, 63));
        edges.is("none", 0, x -> x.cover(0, DAY, 0));
        edges.is("CELLS of none", 0, x -> x.cover(0, DAY, 1));
        edges.is("all 10", 1023, x -> x.cover(10, DAY, 0));
        edges.is("CELLS of all 10", 64, x -> x.cover(10, DAY, 1));
        edges.is("CELLS of all 10 by night", 24 + 18, x -> x.cover(10, NIGHT, 1));
        edges.is("9 of 10, of like ones the least", 1023 - 128, x -> x.cover(9, NIGHT, 0));
        edges.is("1 of 10: the first that sees most", 8, x -> x.cover(1, DAY, 0));
        edges.is("2 of 10", 8 + 256, x -> x.cover(2, DAY, 0));
    }

    private static void coverOfLike() {
        edges.of("5 COVER: of like ones the least set as bits", x -> cells(x, 63, 7, 56, 0));
        edges.is("1 of 4 like", 1, x -> x.cover(1, DAY, 0));
        edges.is("2 of 4 like", 3, x -> x.cover(2, DAY, 0));
        edges.is("3 of 4 like", 7, x -> x.cover(3, DAY, 0));
        edges.is("4 of 4", 15, x -> x.cover(4, DAY, 0));
        edges.is("the most come ahead of the least bits", 8, x -> x.height(0, 5), x -> x.cover(1, DAY, 0));
        edges.of("5 COVER: one CELL twice in the list", x -> cells(x, 0, 0, 63));
        edges.is("both of it are as one", 5, x -> x.cover(2, DAY, 0));
        edges.is("all", 7, x -> x.cover(3, DAY, 0));
        edges.is("CELLS of all", 32, x -> x.cover(3, DAY, 1));
        edges.of("5 COVER: nothing is seen more by a second one", x -> cells(x, 5, 5, 5));
        edges.is("the least two", 3, x -> x.cover(2, DAY, 0));
    }

    private static void coverByPosts() {
        edges.of("5 COVER: as by a POST in an HOUR, MIST as told then", x -> cells(x, 27));
        edges.is("by day", 49, x -> x.cover(1, 19, 1));
        edges.is("by night", 25, x -> x.cover(1, 20, 1));
        edges.is("from a HEIGHT of 5", 64, x -> x.height(27, 5), x -> x.cover(1, DAY, 1));
        edges.is("from a HEIGHT of 4", 49, x -> x.height(27, 4), x -> x.cover(1, DAY, 1));
        edges.is("in MIST 2", 9, x -> x.set(1, 2), x -> x.cover(1, DAY, 1));
        edges.is("in MIST 3: its own CELL", 1, x -> x.set(1, 3), x -> x.cover(1, DAY, 1));
        edges.is("in MIST 5: its own CELL", 1, x -> x.set(1, 5), x -> x.cover(1, NIGHT, 1));
        edges.is("a hill beside it hides 8", 41, x -> x.height(28, 1), x -> x.cover(1, DAY, 1));
        edges.is("no MARK is made", 0, x -> x.cover(1, DAY, 1), x -> x.count(0));
    }

    private static void cover() {
        edges.of("promise 35: BAD: n, HOUR, what; NONE: there are not so many", x -> cells(x, 27, 63));
        edges.is("so many as there are", 3, x -> x.cover(2, 999, 0));
        edges.refused("one more", NONE, x -> x.cover(3, DAY, 0));
        edges.refused("one more, what 1", NONE, x -> x.cover(3, DAY, 1));
        edges.refused("the greatest n", NONE, x -> x.cover(10, DAY, 0));
        edges.refused("an n too small", BAD, x -> x.cover(-1, DAY, 0));
        edges.refused("an n too large", BAD, x -> x.cover(11, DAY, 0));
        edges.refused("an HOUR too small", BAD, x -> x.cover(1, -1, 0));
        edges.refused("an HOUR too large", BAD, x -> x.cover(1, 1000, 0));
        edges.refused("a what too small", BAD, x -> x.cover(1, DAY, -1));
        edges.refused("a what too large", BAD, x -> x.cover(1, DAY, 2));
        edges.refused("not so many, no HOUR: BAD comes ahead", BAD, x -> x.cover(3, 1000, 0));
        edges.refused("not so many, no what: BAD comes ahead", BAD, x -> x.cover(3, DAY, 2));
        edges.refused("the greatest numbers", BAD, x -> x.cover(GREATEST, GREATEST, GREATEST));
        edges.of("promise 35: of an empty list");
        edges.is("none", 0, x -> x.cover(0, DAY, 0));
        edges.is("CELLS of none", 0, x -> x.cover(0, DAY, 1));
        edges.refused("one", NONE, x -> x.cover(1, DAY, 0));
    }

    private static void guns() {
        edges.of("promise 36: BAD: bits (no GUN, GONE, of SIDE 2, too many), apart", x -> {
            for (int m = 0; m < 8; m++) x.mark(m % 2 == 0 ? GUN : BATTERY, m % 2, 0, 1);
            for (int kind = 0; kind < 5; kind++) x.mark(kind, 0, 0, 1);
            x.mark(GUN, 2, 0, 1);
            x.mark(GUN, 0, 0, 0);
            x.gone(14, 1);
            x.mark(GUN, 0, 0, 0);
        });
        edges.is("none", 0, x -> x.drawBack(0, 9999, MANY));
        edges.is("7", 7, x -> x.drawBack(127, 9999, MANY));
        edges.is("the 16th MARK", 15, x -> x.drawBack(1 << 15, 9999, 0));
        edges.refused("8: too many", BAD, x -> x.drawBack(255, 9999, MANY));
        int[] others = {0, POST, PATROL, 4};
        for (int kind : others) edges.refused("KIND " + kind, BAD, x -> x.drawBack(1 << 8 + kind, 9999, MANY));
        edges.is("KIND 2", 1, x -> x.drawBack(1 << 10, 9999, MANY));
        edges.refused("of SIDE 2", BAD, x -> x.drawBack(1 << 13, 9999, MANY));
        edges.refused("one that is GONE", BAD, x -> x.drawBack(1 << 14, 9999, MANY));
        edges.refused("one that is GONE among others", BAD, x -> x.drawBack(3 | 1 << 14, 9999, MANY));
        edges.refused("no MARK", BAD, x -> x.drawBack(1 << 16, 9999, MANY));
        edges.refused("bit 31", BAD, x -> x.drawBack(LEAST, 9999, MANY));
        edges.refused("all bits", BAD, x -> x.drawBack(-1, 9999, MANY));
        edges.is("the first MARK is GONE", BAD, x -> x.gone(0, 1), x -> x.drawBack(3, 9999, MANY));
        edges.is("the first MARK is back", 2, x -> {
            x.gone(0, 1);
            x.gone(0, 0);
        }, x -> x.drawBack(3, 9999, MANY));
        edges.is("the least apart", NONE, x -> x.drawBack(0, 0, MANY), x -> x.drawBack(1, 0, 0));
        edges.refused("apart too small", BAD, x -> x.drawBack(1, -1, MANY));
        edges.refused("apart too large", BAD, x -> x.drawBack(1, 10000, MANY));
        edges.refused("the greatest apart there is", BAD, x -> x.drawBack(1, GREATEST, MANY));
    }

    private static void noGuns() {
        for (int kind = 0; kind < 6; kind++) {
            int k = kind;
            boolean gun = k == GUN || k == BATTERY;
            edges.of("promise 36: BAD: no GUN, nor under one, KIND " + k + " alone", x -> x.mark(k, 0, 0, 1));
            edges.is("SIDE 0", gun ? 1 : BAD, x -> x.drawBack(1, 9999, MANY));
            edges.of("promise 36: BAD: of SIDE 2, KIND " + k + " alone", x -> x.mark(k, 2, 0, 1));
            edges.refused("SIDE 2", BAD, x -> x.drawBack(1, 9999, MANY));
        }
        edges.of("promise 36: BAD: no MARKS");
        edges.refused("MARK 0", BAD, x -> x.drawBack(1, 9999, MANY));
        edges.is("none of none", 0, x -> x.drawBack(0, 0, MANY));
    }

    private static void sizes(TruceLine x, int... sizes) {
        for (int size : sizes) x.mark(GUN, size < 0 ? 1 : 0, 0, Math.abs(size));
    }

    /** THE ORDER of all that are told, or that there is none. */
    private static void order(String edge, int guns, int apart, int... want) {
        edges.is(edge + ": how many", want.length, x -> x.drawBack(guns, apart, MANY));
        for (int i = 0; i < want.length; i++) {
            int place = i;
            edges.is(edge + ": place " + i, want[i], x -> x.drawBack(guns, apart, place));
        }
        edges.is(edge + ": none behind", NONE, x -> x.drawBack(guns, apart, want.length));
    }

    private static void noOrder(String edge, int guns, int apart) {
        for (int i = -1; i < 3; i++) {
            int place = i;
            edges.refused(edge + ": i " + i, NONE, x -> x.drawBack(guns, apart, place));
        }
    }

    private static void oneByOne() {
        edges.of("5 at first and behind each step STRENGTHS are at most so much apart", x -> sizes(x, 10, 20, -20, -10));
        order("as far as can be", 15, 30, 0, 1, 2, 3);
        order("1 less: SIDE 0 can't go all at once", 15, 29, 0, 2, 1, 3);
        order("10 apart", 15, 10, 0, 2, 1, 3);
        noOrder("9 apart", 15, 9);
        order("none to draw, 0 apart", 0, 0);
        order("SIDE 0 alone, 30 apart", 3, 30, 0, 1);
        noOrder("SIDE 0 alone, 29 apart", 3, 29);
        order("SIDE 1 alone, 30 apart", 12, 30, 2, 3);
        noOrder("SIDE 1 alone, 29 apart", 12, 29);
        edges.of("5 at first, too", x -> sizes(x, 30, -20));
        order("10 apart at first, none to draw", 0, 10);
        noOrder("9 apart at first, none to draw", 0, 9);
        noOrder("9 apart at first, though it would come nearer", 1, 9);
        order("SIDE 0 is ahead", 1, 20, 0);
        noOrder("SIDE 1 would be ahead by 20", 1, 19);
        order("both, the greater one first", 3, 20, 0, 1);
        noOrder("both, neither can be first", 3, 19);
        edges.of("5 SIDE 1 is ahead at first", x -> sizes(x, 20, -30));
        noOrder("9 apart at first", 0, 9);
        order("10 apart at first", 0, 10);
        order("both, the lesser one first", 3, 30, 0, 1);
        order("both, the greater one first", 3, 20, 1, 0);
    }

    private static void leastFirst() {
        edges.of("5 THE ORDER: the least MARK first, then the second one, and so on", x -> sizes(x, 5, 5, 5, -5, -5, -5, 0));
        order("like ones", 127, 5, 0, 3, 1, 4, 2, 5, 6);
        order("10 apart", 127, 10, 0, 1, 3, 2, 4, 5, 6);
        order("15 apart", 127, 15, 0, 1, 2, 3, 4, 5, 6);
        order("0 apart: one of SIZE 0 alone", 64, 0, 6);
        noOrder("0 apart: another one", 65, 0);
        edges.of("5 THE ORDER: a first step that is fair, but behind it none is", x -> sizes(x, 1, 2, -2));
        order("1 apart", 7, 1, 1, 2, 0);
        order("2 apart", 7, 2, 0, 1, 2);
        edges.of("5 THE ORDER: such a one of SIDE 1", x -> sizes(x, 2, -1, -2));
        order("1 apart", 7, 1, 2, 0, 1);
        order("2 apart", 7, 2, 1, 0, 2);
        edges.of("5 THE ORDER: as long as it leads on", x -> sizes(x, 4, 6, -3, -7));
        order("6 apart", 15, 6, 0, 2, 3, 1);
        order("7 apart", 15, 7, 0, 2, 1, 3);
    }

    private static void places() {
        edges.of("promise 36: i = -1: how many; else the i-th. NONE: there is none such", x -> sizes(x, 1, -1, 1));
        edges.is("how many", 3, x -> x.drawBack(7, 9, -1));
        edges.is("the first", 0, x -> x.drawBack(7, 9, 0));
        edges.is("the last", 2, x -> x.drawBack(7, 9, 2));
        edges.refused("one behind the last", NONE, x -> x.drawBack(7, 9, 3));
        edges.refused("the greatest i", NONE, x -> x.drawBack(7, 9, GREATEST));
        edges.refused("below -1", NONE, x -> x.drawBack(7, 9, -2));
        edges.refused("the least i", NONE, x -> x.drawBack(7, 9, LEAST));
        edges.refused("no bits, none such: BAD comes ahead", BAD, x -> x.drawBack(8, 9, 3));
        edges.refused("no apart, none such: BAD comes ahead", BAD, x -> x.drawBack(7, 10000, 3));
        edges.is("how many of none", 0, x -> x.drawBack(0, 9, -1));
        edges.refused("the first of none", NONE, x -> x.drawBack(0, 9, 0));
        edges.is("nothing is DRAWN BACK by asking", 0, x -> x.drawBack(7, 9, 0), x -> x.markTold(0, 3));
    }

    private static void apart() {
        edges.of("promise 36: at most so much (0 .. 9999) apart", x -> {
            for (int m = 0; m < 16; m++) x.mark(GUN, 0, 0, 99);
        });
        edges.is("the greatest apart lets all", 7, x -> x.drawBack(127, 9999, MANY));
        edges.is("16 times 99", 7, x -> x.drawBack(127, 1584, MANY));
        edges.is("1 less", NONE, x -> x.drawBack(127, 1583, MANY));
    }

    private static void strength() {
        edges.of("promise 37: STRENGTH: SIZE of all its GUNS (and those under them) that aren't GONE. BAD", x -> {
            for (int kind = 0; kind < 6; kind++) x.mark(kind, 0, 0, 1 << kind);
            x.mark(GUN, 1, 0, 99);
            x.mark(BATTERY, 2, 0, 98);
        });
        edges.is("GUN and BATTERY alone", 4 + 32, x -> x.strength(0));
        edges.is("of SIDE 1", 99, x -> x.strength(1));
        edges.is("of SIDE 2", 98, x -> x.strength(2));
        edges.is("one is GONE", 32, x -> x.gone(2, 1), x -> x.strength(0));
        edges.is("all are GONE", 0, x -> x.gone(6, 1), x -> x.strength(1));
        edges.is("HELD ones count", 99, x -> x.hold(6, 1), x -> x.strength(1));
        edges.refused("a SIDE too small", BAD, x -> x.strength(-1));
        edges.refused("a SIDE too large", BAD, x -> x.strength(3));
        edges.refused("the least", BAD, x -> x.strength(LEAST));
        edges.refused("the greatest", BAD, x -> x.strength(GREATEST));
        edges.of("promise 37: of no MARKS");
        edges.is("SIDE 0", 0, x -> x.strength(0));
        edges.is("the most there can be", 1584, x -> {
            for (int m = 0; m < 16; m++) x.mark(BATTERY, 1, 0, 99);
        }, x -> x.strength(1));
    }
}
