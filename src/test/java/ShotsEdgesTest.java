/** The edges that SHOTS, CALM and promises 31 to 33 name, sentence by sentence. */
public final class ShotsEdgesTest {
    private static final int BAD = Edges.BAD, NONE = Edges.NONE, LEAST = Edges.LEAST, GREATEST = Edges.GREATEST;
    private static final Edges edges = new Edges();

    public static void main(String[] args) {
        hold();
        heardAsFar();
        ofTheOtherSide();
        ownHours();
        byOrders();
        heldOrGone();
        hoursBehind();
        lastHours();
        shots();
        calmSets();
        calmHours();
        calmTold();
        calm();
        edges.end();
    }

    private static void orders(TruceLine x, String shoot) {
        int text = Tape.text(x, "breach 0 ; shoot " + shoot + " ;");
        x.force(0, text);
        x.force(1, text);
    }

    private static void hold() {
        edges.of("promise 31: a MARK is HELD (1), or not (0): what it was. BAD", x -> {
            x.mark(1, 0, 5, 1);
            x.mark(1, 2, 6, 1);
            x.hold(1, 1);
        });
        edges.is("it is HELD", 0, x -> x.hold(0, 1));
        edges.is("it is not", 0, x -> x.hold(0, 0));
        edges.is("it is HELD already", 1, x -> x.hold(1, 1));
        edges.is("it is HELD no more", 1, x -> x.hold(1, 0));
        edges.is("it is told so", 0, x -> x.hold(1, 0), x -> x.markTold(1, 5));
        edges.is("another one is as it was", 1, x -> x.hold(0, 1), x -> x.markTold(1, 5));
        edges.is("one that is GONE", 0, x -> x.gone(0, 1), x -> x.hold(0, 1));
        edges.refused("a MARK too small", BAD, x -> x.hold(-1, 1));
        edges.refused("a MARK too large", BAD, x -> x.hold(2, 1));
        edges.refused("2 is neither", BAD, x -> x.hold(0, 2));
        edges.refused("-1 is neither", BAD, x -> x.hold(0, -1));
        edges.refused("the greatest numbers", BAD, x -> x.hold(GREATEST, GREATEST));
    }

    private static void heardAt(String edge, int kind, int cell, int want) {
        edges.is(edge, want, x -> {
            x.mark(0, 0, 0, 0);
            x.mark(kind, 1, cell, 0);
        }, x -> x.shots(0, 5, 1));
    }

    private static void heardAsFar() {
        edges.of("5 heard: at most EAR and 4 APART");
        heardAt("0 APART", 0, 0, 2);
        heardAt("EAR 0, 4 APART", 0, 4, 2);
        heardAt("EAR 0, 5 APART", 0, 5, 0);
        heardAt("EAR 0, 4 columns and 4 rows", 2, 36, 2);
        heardAt("EAR 0, 5 rows", 2, 40, 0);
        heardAt("EAR 2, 6 APART", 5, 6, 2);
        heardAt("EAR 2, 7 APART", 5, 7, 0);
        heardAt("EAR 4, 7 APART", 1, 63, 2);
        heardAt("EAR 10, 7 APART", 4, 63, 2);
    }

    private static void ofTheOtherSide() {
        edges.of("5 MARKS of SIDES 0, 1; heard is how many of the other one of them; which heard one at least", x -> {
            for (int m = 0; m < 6; m++) x.mark(0, m % 3, 0, 0);
            orders(x, "1");
        });
        edges.is("SIDE 1 shoots, no SIDE 0, no watchers", 2 + 16, x -> x.shots(0, 5, 1));
        edges.is("then SIDE 0", 1 + 8, x -> x.shots(0, 5, 2));
        edges.is("and SIDE 1 again", 2 + 16, x -> x.shots(0, 5, 3));
        edges.is("whatever the ORDERS: who hears none does not shoot", 0, x -> {
            x.gone(1, 1);
            x.gone(4, 1);
        }, x -> x.shots(0, 5, 1));
    }

    private static void ownHours() {
        edges.of("5 each as it stands in its own HOUR", x -> {
            x.mark(3, 0, 0, 0);
            x.walk(0, 0);
            x.walk(0, 63);
            x.mark(0, 1, 4, 0);
            x.mark(0, 1, 59, 0);
        });
        edges.is("it shot from CELL 0", 2, x -> x.shots(0, 6, 1));
        edges.is("it shot from CELL 63", 4, x -> x.shots(0, 7, 1));
        edges.of("5 each as it stands in its own HOUR: at another place in each", x -> {
            x.mark(3, 0, 0, 0);
            for (int cell : new int[] {0, 7, 56, 63}) x.walk(0, cell);
            for (int cell : new int[] {0, 7, 56, 63}) x.mark(0, 1, cell, 0);
        });
        for (int hour = 0; hour < 8; hour++) {
            int h = hour;
            edges.is("a SHOT in HOUR " + h, 2 << h % 4, x -> x.shots(0, h, 1));
            edges.is("in HOUR " + h + ", 2 behind it", 1, x -> x.shots(0, h, 2));
            edges.is("in HOUR " + h + ", 3 behind it", 2 << (h + 2) % 4, x -> x.shots(0, h, 3));
        }
    }

    private static void byOrders() {
        edges.of("5 for which shoot of the ORDERS of their SIDE isn't 0", x -> {
            x.mark(1, 0, 0, 1);
            x.mark(1, 0, 1, 2);
            x.mark(1, 1, 2, 3);
            x.mark(1, 1, 3, 4);
        });
        edges.is("below 0 isn't 0", 12, x -> orders(x, "-1"), x -> x.shots(0, 5, 1));
        edges.is("0 is 0", 0, x -> orders(x, "0"), x -> x.shots(0, 5, 1));
        edges.is("heard is 1", 12, x -> orders(x, "heard = 1"), x -> x.shots(0, 5, 1));
        edges.is("heard is 2 then", 0, x -> orders(x, "heard = 1"), x -> x.shots(0, 5, 2));
        edges.is("two are heard", 3, x -> orders(x, "heard = 1 or heard = 2"), x -> x.shots(0, 5, 2));
        edges.is("of its own SIDE's ORDERS", 0, x -> x.force(1, Tape.text(x, "breach 1;shoot 0;")), x -> x.shots(0, 5, 1));
        edges.is("not of the other SIDE's", 12, x -> x.force(0, Tape.text(x, "breach 1;shoot 0;")), x -> x.shots(0, 5, 1));
        edges.is("by its SIZE", 8, x -> orders(x, "3 < size"), x -> x.shots(0, 5, 1));
        edges.is("in its HOUR, not in the SHOT's", 12, x -> orders(x, "hour = 6"), x -> x.shots(0, 5, 1));
    }

    private static void heldOrGone() {
        edges.of("5 not GONE, not HELD; the SHOT's MARK is GONE or not, HELD or not", x -> {
            x.mark(1, 0, 0, 1);
            x.mark(1, 1, 2, 3);
            x.mark(1, 1, 3, 4);
        });
        edges.is("both", 6, x -> x.shots(0, 5, 1));
        edges.is("one is HELD", 4, x -> x.hold(1, 1), x -> x.shots(0, 5, 1));
        edges.is("one is GONE", 2, x -> x.gone(2, 1), x -> x.shots(0, 5, 1));
        edges.is("the SHOT's is HELD", 6, x -> x.hold(0, 1), x -> x.shots(0, 5, 1));
        edges.is("the SHOT's is HELD: no more SHOTS of it", 0, x -> x.hold(0, 1), x -> x.shots(0, 5, 2));
        edges.is("the SHOT's is GONE", 6, x -> x.gone(0, 1), x -> x.shots(0, 5, 1));
        edges.is("the SHOT's is GONE: no more SHOTS of it", 0, x -> x.gone(0, 1), x -> x.shots(0, 5, 2));
        edges.is("0 behind: itself, GONE and HELD", 1, x -> {
            x.gone(0, 1);
            x.hold(0, 1);
        }, x -> x.shots(0, 5, 0));
    }

    private static void hoursBehind() {
        edges.of("5 it goes on till none shoots, 24 HOURS at most", x -> {
            x.mark(1, 0, 0, 1);
            x.mark(1, 1, 2, 3);
        });
        for (int n = 0; n <= 24; n++) {
            int hours = n;
            edges.is(n + " behind", n % 2 == 0 ? 1 : 2, x -> x.shots(0, 5, hours));
            int due = n > 4 ? 0 : n % 2 == 0 ? 1 : 2;
            edges.is(n + " behind, none shoots from 5 on", due, x -> orders(x, "hour < 10"), x -> x.shots(0, 5, hours));
            int gap = n > 2 ? 0 : n % 2 == 0 ? 1 : 2;
            edges.is(n + " behind, once none shot", gap, x -> orders(x, "not hour = 8"), x -> x.shots(0, 5, hours));
        }
    }

    private static void lastHours() {
        edges.of("5 the last HOURS", x -> {
            x.mark(1, 0, 0, 1);
            x.mark(1, 1, 2, 3);
        });
        edges.is("a SHOT in the first", 2, x -> x.shots(0, 0, 1));
        edges.is("called forth in the last", 2, x -> orders(x, "hour = 999"), x -> x.shots(0, 998, 1));
        edges.is("a SHOT in the last", 1, x -> x.shots(0, 999, 0));
        edges.is("HOURS are counted on behind the last", 2, x -> orders(x, "999 < hour"), x -> x.shots(0, 999, 1));
        edges.is("24 behind the last", 1, x -> orders(x, "heard and 999 < hour"), x -> x.shots(0, 999, 24));
    }

    private static void shots() {
        edges.of("promise 32: BAD: MARK (of SIDE 2, too), HOUR, n", x -> {
            for (int m = 0; m < 16; m++) x.mark(1, m == 3 ? 2 : m % 2, m, 0);
        });
        edges.is("the least numbers", 1, x -> x.shots(0, 0, 0));
        edges.is("the greatest numbers but one", 1 << 15, x -> x.shots(15, 999, 0));
        edges.refused("a MARK too small", BAD, x -> x.shots(-1, 0, 0));
        edges.refused("a MARK too large", BAD, x -> x.shots(16, 0, 0));
        edges.refused("a MARK of SIDE 2", BAD, x -> x.shots(3, 0, 0));
        edges.refused("an HOUR too small", BAD, x -> x.shots(0, -1, 0));
        edges.refused("an HOUR too large", BAD, x -> x.shots(0, 1000, 0));
        edges.refused("an n too small", BAD, x -> x.shots(0, 0, -1));
        edges.refused("an n too large", BAD, x -> x.shots(0, 0, 25));
        edges.refused("the least ints", BAD, x -> x.shots(LEAST, LEAST, LEAST));
        edges.refused("the greatest ints", BAD, x -> x.shots(GREATEST, GREATEST, GREATEST));
        edges.of("promise 32: no MARKS");
        edges.refused("MARK 0", BAD, x -> x.shots(0, 0, 0));
    }

    /** MARKS 0 and 3 of SIDE 0, 1 and 2 of SIDE 1; all hear one another. */
    private static void four(TruceLine x) {
        x.mark(0, 0, 0, 0);
        x.mark(0, 1, 1, 0);
        x.mark(0, 1, 2, 0);
        x.mark(0, 0, 3, 0);
    }

    private static void calmSets() {
        edges.of("5 CALM: the least set (fewest, then the least bits)", ShotsEdgesTest::four);
        edges.is("two and two are like: the least bits", 6, x -> x.calm(0, 5, 15, 2));
        edges.is("those told alone", 9, x -> x.calm(0, 5, 9, 2));
        edges.is("besides those that are HELD", 2, x -> x.hold(2, 1), x -> x.calm(0, 5, 15, 1));
        edges.is("one that is HELD is not told again", 2, x -> x.hold(2, 1), x -> x.calm(0, 5, 6, 1));
        edges.is("nothing is needed: the empty set", 0, x -> {
            x.hold(1, 1);
            x.hold(2, 1);
        }, x -> x.calm(0, 5, 15, 1));
        edges.is("nothing came to be HELD", 0, x -> x.calm(0, 5, 15, 1), x -> x.markTold(1, 5));
        edges.is("HELD is the SHOT's MARK: it has shot", 6, x -> x.hold(0, 1), x -> x.calm(0, 5, 15, 1));
        edges.of("5 CALM: fewest ahead of the least bits", x -> {
            x.mark(0, 1, 0, 0);
            x.mark(0, 1, 0, 0);
            x.mark(0, 0, 0, 0);
            x.mark(0, 0, 0, 0);
            x.gone(3, 1);
        });
        edges.is("two with lesser bits would do", 3, x -> x.calm(3, 5, 3, 2));
        edges.is("one with greater bits does", 4, x -> x.calm(3, 5, 7, 2));
        edges.is("one does not from 1 on", 3, x -> x.calm(3, 5, 7, 1));
        edges.is("one alone is told", 4, x -> x.calm(3, 5, 4, 2));
    }

    private static void calmHours() {
        edges.of("5 CALM: so that none shoots any more from so many HOURS behind the SHOT on (1 .. 24)", x -> {
            four(x);
            orders(x, "hour < 8");
        });
        edges.is("from 1 on", 6, x -> x.calm(0, 5, 15, 1));
        edges.is("from 2 on", 6, x -> x.calm(0, 5, 15, 2));
        edges.is("from 3 on: they stop by themselves", 0, x -> x.calm(0, 5, 15, 3));
        edges.is("from 24 on", 0, x -> x.calm(0, 5, 15, 24));
        edges.of("5 CALM, none stops by itself", ShotsEdgesTest::four);
        edges.is("from 24 on", 6, x -> x.calm(0, 5, 15, 24));
        edges.is("from 1 on, its own SIDE does not help", NONE, x -> x.calm(0, 5, 9, 1));
        edges.is("from 2 on it does", 9, x -> x.calm(0, 5, 9, 2));
        edges.is("in the last HOUR", 6, x -> x.calm(0, 999, 15, 24));
    }

    private static void calmTold() {
        edges.of("promise 33: of told MARKS (bits, 6 at most)", x -> {
            for (int m = 0; m < 16; m++) x.mark(0, m == 15 ? 2 : m % 2, 0, 0);
        });
        edges.is("none told: NONE", NONE, x -> x.calm(0, 5, 0, 1));
        edges.is("6 told are too few", NONE, x -> x.calm(0, 5, 0b101010101010, 1));
        edges.is("one that is not told does not help", NONE, x -> {
            for (int m = 2; m < 16; m++) x.gone(m, 1);
        }, x -> x.calm(1, 5, 2, 1));
        edges.is("it does, if it is told", 1, x -> {
            for (int m = 2; m < 16; m++) x.gone(m, 1);
        }, x -> x.calm(1, 5, 3, 1));
        edges.is("6 told, the seventh is HELD", 0b101010101010, x -> x.hold(13, 1), x -> x.calm(0, 5, 0b101010101010, 1));
        edges.is("a watcher is told", 0b1010, x -> {
            for (int m = 5; m < 15; m++) x.gone(m, 1);
        }, x -> x.calm(0, 5, 0b1000000000001010, 1));
        edges.is("one that is GONE is told", 0b1010, x -> {
            for (int m = 5; m < 15; m++) x.gone(m, 1);
        }, x -> x.calm(0, 5, 0b101010, 1));
        edges.refused("7 told", BAD, x -> x.calm(0, 5, 0b1111111, 1));
        edges.refused("16 told", BAD, x -> x.calm(0, 5, 0xFFFF, 1));
        edges.refused("MARK 16 told", BAD, x -> x.calm(0, 5, 1 << 16, 1));
        edges.refused("MARK 31 told", BAD, x -> x.calm(0, 5, LEAST, 1));
        edges.refused("below 0", BAD, x -> x.calm(0, 5, -1, 1));
    }

    private static void calm() {
        edges.of("promise 33: BAD: MARK (of SIDE 2, too), HOUR, bits, n; NONE: no set does", x -> {
            four(x);
            x.mark(1, 2, 0, 0);
        });
        edges.is("the least numbers", NONE, x -> x.calm(0, 0, 0, 1));
        edges.is("the greatest MARK, HOUR, n", 9, x -> x.calm(2, 999, 9, 24));
        edges.refused("NONE", NONE, x -> x.calm(0, 5, 2, 1));
        edges.refused("a MARK too small", BAD, x -> x.calm(-1, 5, 0, 1));
        edges.refused("a MARK too large", BAD, x -> x.calm(5, 5, 0, 1));
        edges.refused("a MARK of SIDE 2", BAD, x -> x.calm(4, 5, 0, 1));
        edges.refused("an HOUR too small", BAD, x -> x.calm(0, -1, 0, 1));
        edges.refused("an HOUR too large", BAD, x -> x.calm(0, 1000, 0, 1));
        edges.refused("one told that is none", BAD, x -> x.calm(0, 5, 32, 1));
        edges.refused("an n too small", BAD, x -> x.calm(0, 5, 0, 0));
        edges.refused("an n too large", BAD, x -> x.calm(0, 5, 0, 25));
        edges.refused("the greatest numbers", BAD, x -> x.calm(GREATEST, GREATEST, GREATEST, GREATEST));
    }
}
