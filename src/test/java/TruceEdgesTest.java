/** The edges that TEXTS in force, BREACHES, PERMITS and promises 16 to 21 name, sentence by sentence. */
public final class TruceEdgesTest {
    private static final int BAD = Edges.BAD, FULL = Edges.FULL, NONE = Edges.NONE;
    private static final int LEAST = Edges.LEAST, GREATEST = Edges.GREATEST;
    private static final long NO = Edges.NO;
    private static final int DAY = 12;
    private static final Edges edges = new Edges();

    public static void main(String[] args) {
        wrapping();
        oneOrZero();
        farNames();
        otherNames();
        firstText();
        force();
        says();
        breach();
        known();
        breaches();
        astray();
        permit();
        fullPermits();
        may();
        edges.end();
    }

    private static void says(String e, long want) {
        edges.is(e, want, x -> x.force(2, Tape.text(x, "breach " + e + ";shoot 0;")), x -> x.says(0, 0, 0, 0));
    }

    private static void wrapping() {
        edges.of("3 an E is an int (32 bits, wrapping)", x -> x.mark(0, 0, 0, 0));
        String greatest = "9999*9999*21+9999*4790+8416";
        String least = "-9999*9999*21-9999*4790-8417";
        says(greatest, GREATEST);
        says(greatest + "+1", LEAST);
        says(greatest + "+9999", LEAST + 9998L);
        says(least, LEAST);
        says(least + "-1", GREATEST);
        says("-(" + least + ")", LEAST);
        says("-1*(" + least + ")", LEAST);
        says("4096*16*4096*8", LEAST);
        says("4096*16*4096*16", 0);
        says("4096*16*4096*16+5", 5);
        says("(" + greatest + ")*2", -2);
        says(greatest + "+1<0", 1);
        says(least + "<0", 1);
        says(least + "<" + greatest, 1);
        says(greatest + "<" + least, 0);
        says(greatest + "+1=" + least, 1);
        says("4096*16*4096*16=0", 1);
        says("not 4096*16*4096*16", 1);
    }

    private static void oneOrZero() {
        edges.of("3 of or, and, not, <, = 1 or 0 (what is not 0 is true)", x -> x.mark(0, 0, 0, 0));
        says("0 or 0", 0);
        says("0 or 7", 1);
        says("7 or 0", 1);
        says("-7 or 7", 1);
        says("0 and 0", 0);
        says("7 and 0", 0);
        says("0 and 7", 0);
        says("7 and -7", 1);
        says("1 and 2", 1);
        says("not 0", 1);
        says("not 1", 0);
        says("not 7", 0);
        says("not -1", 0);
        says("not not 7", 1);
        says("5<5", 0);
        says("4<5", 1);
        says("6<5", 0);
        says("-1<0", 1);
        says("0<-1", 0);
        says("5=5", 1);
        says("5=-5", 0);
        says("0=-0", 1);
        says("7", 7);
        says("(7 or 0)+(7<9)+(not 0)", 3);
    }

    private static void farOf(String edge, int side, int line, int cell, long want) {
        edges.is(edge, want, x -> {
            x.mark(0, side, cell, 0);
            x.line(0, line);
            x.force(2, Tape.text(x, "breach far;shoot 0;"));
        }, x -> x.says(0, 0, 0, 0));
    }

    private static void farNames() {
        edges.of("3 far: how FAR; of SIDES 0, 1, if it is on the other SIDE's, that less than -1");
        farOf("SIDE 0 at THE LINE", 0, 4, 3, 0);
        farOf("SIDE 0 just over it", 0, 4, 4, -1);
        farOf("SIDE 0 one more over it", 0, 4, 5, -2);
        farOf("SIDE 0 farthest over it", 0, 0, 7, -8);
        farOf("SIDE 0 in a row without its CELLS", 0, 0, 0, -1);
        farOf("SIDE 0 farthest from it", 0, 8, 0, 7);
        farOf("SIDE 1 at THE LINE", 1, 4, 4, 0);
        farOf("SIDE 1 just over it", 1, 4, 3, -1);
        farOf("SIDE 1 farthest over it", 1, 8, 0, -8);
        farOf("SIDE 1 in a row without its CELLS", 1, 8, 7, -1);
        farOf("SIDE 1 farthest from it", 1, 0, 7, 7);
        farOf("a watcher left of it", 2, 4, 0, 3);
        farOf("a watcher right of it", 2, 4, 7, 3);
        farOf("a watcher at it", 2, 4, 4, 0);
    }

    private static void otherNames() {
        edges.of("3 of a MARK in an HOUR: size, kind, strip, hour, heard", x -> {
            x.mark(5, 0, 3, 99);
            x.mark(0, 1, 2, 0);
            x.force(2, Tape.text(x, "breach size*100+kind*10+strip ; shoot heard ;"));
            x.force(0, Tape.text(x, "breach 0 ; shoot hour*100+heard ;"));
        });
        edges.is("the greatest size and kind, in THE STRIP", 9951, x -> x.says(0, 0, 0, 0));
        edges.is("the least, beside THE STRIP", 0, x -> x.says(1, 0, 0, 0));
        edges.is("no STRIP", 9950, x -> x.set(0, 0), x -> x.says(0, 0, 0, 0));
        edges.is("the first HOUR", 0, x -> x.says(0, 0, 1, 0));
        edges.is("the last HOUR, most heard", 99999, x -> x.says(0, 999, 1, 99));
    }

    private static void firstText() {
        edges.of("3 TEXT 0: breach strip and 0 < size or far < 0 ; shoot 0 < heard ;", x -> {
            x.mark(0, 0, 3, 0);
            x.mark(0, 0, 3, 1);
            x.mark(0, 0, 2, 99);
            x.mark(0, 0, 4, 0);
            x.mark(0, 2, 4, 1);
            x.mark(0, 2, 5, 99);
        });
        edges.is("SIZE 0 in THE STRIP", 0, x -> x.says(0, 0, 0, 0));
        edges.is("SIZE 1 in THE STRIP", 1, x -> x.says(1, 0, 0, 0));
        edges.is("SIZE 99 beside it", 0, x -> x.says(2, 0, 0, 0));
        edges.is("SIZE 0 over THE LINE", 1, x -> x.says(3, 0, 0, 0));
        edges.is("a watcher in THE STRIP", 1, x -> x.says(4, 0, 0, 0));
        edges.is("a watcher beside it", 0, x -> x.says(5, 0, 0, 0));
        edges.is("none heard", 0, x -> x.says(0, 0, 1, 0));
        edges.is("one heard", 1, x -> x.says(0, 0, 1, 1));
    }

    private static void force() {
        edges.of("promise 16: ORDERS of SIDE 0, 1, THE TRUCE (2): which was. BAD", x -> {
            for (int i = 0; i < 5; i++) Tape.text(x, "breach 0;shoot 0;");
            x.force(1, 3);
        });
        for (int which = 0; which < 3; which++) {
            int w = which;
            edges.is("which was of " + w, w == 1 ? 3 : 0, x -> x.force(w, 5));
            edges.is("the greatest TEXT stands as " + w, 5, x -> x.force(w, 5), x -> x.count(9 + w));
            edges.is("the least TEXT stands as " + w, 0, x -> x.force(w, 0), x -> x.count(9 + w));
            edges.is("beside " + w, w == 1 ? 0 : 3, x -> x.force(w, 5), x -> x.count(w == 1 ? 11 : 10));
            edges.refused("a TEXT too small as " + w, BAD, x -> x.force(w, -1));
            edges.refused("a TEXT too large as " + w, BAD, x -> x.force(w, 6));
        }
        edges.refused("a which too small", BAD, x -> x.force(-1, 0));
        edges.refused("a which too large", BAD, x -> x.force(3, 0));
        edges.refused("the greatest numbers", BAD, x -> x.force(GREATEST, GREATEST));
        edges.of("promise 16: of a new object");
        edges.refused("there is TEXT 0 alone", BAD, x -> x.force(0, 1));
    }

    private static void says() {
        edges.of("promise 17: heard being told (0 .. 99; 0 is taken in breach). NO: none such", x -> {
            x.mark(1, 0, 3, 5);
            x.mark(1, 2, 3, 5);
            x.force(2, Tape.text(x, "breach 1000 + heard ; shoot 2000 + heard ;"));
            x.force(0, Tape.text(x, "breach 3000 + heard ; shoot 4000 + heard ;"));
        });
        edges.is("breach by THE TRUCE", 1000, x -> x.says(0, 0, 0, 0));
        edges.is("0 is taken in breach", 1000, x -> x.says(0, 0, 0, 99));
        edges.is("shoot by ORDERS, least heard", 4000, x -> x.says(0, 0, 1, 0));
        edges.is("shoot by ORDERS, most heard", 4099, x -> x.says(0, 999, 1, 99));
        edges.is("the watchers' by THE TRUCE", 2099, x -> x.says(1, 0, 1, 99));
        edges.is("of one that is GONE", 4001, x -> x.gone(0, 1), x -> x.says(0, 0, 1, 1));
        edges.is("of one that is HELD", 4001, x -> x.hold(0, 1), x -> x.says(0, 0, 1, 1));
        edges.refused("a MARK too small", NO, x -> x.says(-1, 0, 0, 0));
        edges.refused("a MARK too large", NO, x -> x.says(2, 0, 0, 0));
        edges.refused("an HOUR too small", NO, x -> x.says(0, -1, 0, 0));
        edges.refused("an HOUR too large", NO, x -> x.says(0, 1000, 0, 0));
        edges.refused("a part too small", NO, x -> x.says(0, 0, -1, 0));
        edges.refused("a part too large", NO, x -> x.says(0, 0, 2, 0));
        edges.refused("heard too small", NO, x -> x.says(0, 0, 1, -1));
        edges.refused("heard too large", NO, x -> x.says(0, 0, 1, 100));
        edges.refused("the least numbers", NO, x -> x.says(LEAST, LEAST, LEAST, LEAST));
        edges.refused("the greatest numbers", NO, x -> x.says(GREATEST, GREATEST, GREATEST, GREATEST));
    }

    private static void breach() {
        edges.of("3 a MARK (not GONE) is a BREACH, if breach of THE TRUCE isn't 0", x -> {
            for (int m = 0; m < 16; m++) x.mark(0, m % 3, 8, m);
            x.force(2, Tape.text(x, "breach size - 1 ; shoot 0 ;"));
        });
        edges.is("below 0, and all but 0", 0xFFFD, x -> x.breaches(-1, 0));
        edges.is("not one that is GONE", 0x7FFC, x -> {
            x.gone(0, 1);
            x.gone(15, 1);
        }, x -> x.breaches(-1, 0));
        edges.is("ORDERS are no TRUCE", 0xFFFD, x -> x.force(0, 0), x -> x.breaches(-1, 0));
    }

    private static void known() {
        edges.of("3 KNOWN: BREACHES of other SIDES whose CELL it SEES", x -> {
            x.mark(1, 0, 0, 1);
            x.mark(0, 1, 3, 1);
            x.mark(0, 1, 4, 1);
            x.mark(0, 2, 0, 1);
            x.mark(0, 0, 0, 1);
            x.mark(3, 1, 63, 1);
            x.walk(5, 63);
            x.walk(5, 1);
            x.force(2, Tape.text(x, "breach 1 ; shoot 0 ;"));
        });
        edges.is("as far as SIGHT, not its own", 2 + 8, x -> x.breaches(0, 12));
        edges.is("where it is in that HOUR", 2 + 8 + 32, x -> x.breaches(0, 13));
        edges.is("SIDE 1 SEES by its walker", 1 + 8 + 16, x -> x.breaches(1, 13));
        edges.is("SIDE 1 SEES none", 0, x -> x.breaches(1, 12));
        edges.is("the watchers know others in their CELL", 1 + 16, x -> x.breaches(2, 12));
        edges.is("one that is GONE is none", 2, x -> x.gone(3, 1), x -> x.breaches(0, 12));
        edges.is("those that are GONE SEE none", 0, x -> {
            x.gone(0, 1);
            x.gone(4, 1);
        }, x -> x.breaches(0, 12));
    }

    private static void breaches() {
        edges.of("promise 18: BREACHES; side 0 .. 2, -1: all. BAD", x -> x.mark(1, 0, 3, 1));
        edges.is("all in the first HOUR", 1, x -> x.breaches(-1, 0));
        edges.is("all in the last HOUR", 1, x -> x.breaches(-1, 999));
        edges.is("KNOWN to the least SIDE", 0, x -> x.breaches(0, 999));
        edges.is("KNOWN to the greatest SIDE", 1, x -> x.mark(0, 2, 3, 0), x -> x.breaches(2, 999));
        edges.refused("a SIDE too small", BAD, x -> x.breaches(-2, 0));
        edges.refused("a SIDE too large", BAD, x -> x.breaches(3, 0));
        for (int side = -1; side < 3; side++) {
            int s = side;
            edges.refused("an HOUR too small, side " + s, BAD, x -> x.breaches(s, -1));
            edges.refused("an HOUR too large, side " + s, BAD, x -> x.breaches(s, 1000));
        }
        edges.refused("the least numbers", BAD, x -> x.breaches(LEAST, LEAST));
        edges.refused("the greatest numbers", BAD, x -> x.breaches(GREATEST, GREATEST));
        edges.of("promise 18: of no MARKS");
        edges.is("all", 0, x -> x.breaches(-1, DAY));
        edges.is("KNOWN", 0, x -> x.breaches(2, DAY));
    }

    private static void astray() {
        edges.of("promise 19: ASTRAY: SIDES 0, 1, not GONE, whose CELL is of the other SIDE. BAD", x -> {
            x.mark(1, 0, 3, 1);
            x.mark(1, 1, 4, 1);
            x.mark(1, 2, 3, 1);
            x.mark(3, 0, 3, 1);
            x.walk(3, 3);
            x.walk(3, 4);
        });
        edges.is("none, at THE LINE", 0, x -> x.astray(0));
        edges.is("one in another HOUR", 8, x -> x.astray(999));
        edges.is("SHIFTED by one", 2, x -> x.line(0, 5), x -> x.astray(0));
        edges.is("SHIFTED back by one", 1 + 8, x -> x.line(0, 3), x -> x.astray(0));
        edges.is("all is SIDE 1's: no watcher", 1 + 8, x -> x.line(0, 0), x -> x.astray(0));
        edges.is("all is SIDE 0's: no watcher", 2, x -> x.line(0, 8), x -> x.astray(0));
        edges.is("one that is GONE", 8, x -> {
            x.line(0, 0);
            x.gone(0, 1);
        }, x -> x.astray(0));
        edges.is("the last of 16", 0x8000, x -> {
            for (int m = 4; m < 16; m++) x.mark(1, 0, m == 15 ? 7 : 0, 1);
        }, x -> x.astray(0));
        edges.refused("an HOUR too small", BAD, x -> x.astray(-1));
        edges.refused("an HOUR too large", BAD, x -> x.astray(1000));
        edges.refused("the least", BAD, x -> x.astray(LEAST));
        edges.refused("the greatest", BAD, x -> x.astray(GREATEST));
    }

    private static void permit() {
        edges.of("promise 20: BAD: person, rows (0 .. 7, to from or above), HOURS (until above since)");
        edges.is("the least of all", 0, x -> x.permit(0, 0, 0, 0, 1));
        edges.is("the greatest of all", 0, x -> x.permit(99, 7, 7, 998, 999));
        edges.is("to is from", 0, x -> x.permit(5, 3, 3, 10, 20));
        edges.is("all rows and HOURS", 0, x -> x.permit(5, 0, 7, 0, 999));
        edges.refused("a person too small", BAD, x -> x.permit(-1, 0, 7, 0, 999));
        edges.refused("a person too large", BAD, x -> x.permit(100, 0, 7, 0, 999));
        edges.refused("from too small", BAD, x -> x.permit(5, -1, 7, 0, 999));
        edges.refused("from too large", BAD, x -> x.permit(5, 8, 8, 0, 999));
        edges.refused("to too small", BAD, x -> x.permit(5, 0, -1, 0, 999));
        edges.refused("to too large", BAD, x -> x.permit(5, 0, 8, 0, 999));
        edges.refused("to below from by 1", BAD, x -> x.permit(5, 3, 2, 0, 999));
        edges.refused("since too small", BAD, x -> x.permit(5, 0, 7, -1, 999));
        edges.refused("since too large", BAD, x -> x.permit(5, 0, 7, 1000, 1001));
        edges.refused("until too small", BAD, x -> x.permit(5, 0, 7, 0, -1));
        edges.refused("until too large", BAD, x -> x.permit(5, 0, 7, 0, 1000));
        edges.refused("until is since", BAD, x -> x.permit(5, 0, 7, 10, 10));
        edges.refused("until is since, the last HOUR", BAD, x -> x.permit(5, 0, 7, 999, 999));
        edges.refused("until below since by 1", BAD, x -> x.permit(5, 0, 7, 10, 9));
        edges.refused("the greatest numbers", BAD, x -> x.permit(GREATEST, GREATEST, GREATEST, GREATEST, GREATEST));
        edges.refused("the least numbers", BAD, x -> x.permit(LEAST, LEAST, LEAST, LEAST, LEAST));
    }

    private static void fullPermits() {
        edges.of("3 PERMITS (12 at most)", x -> permits(x, 11));
        edges.is("the 12th", 11, x -> x.permit(5, 0, 7, 0, 999));
        edges.is("the 12th lets", 11, x -> x.permit(5, 0, 7, 0, 999), x -> x.may(5, 0, 0));
        edges.of("promise 20: FULL, with all 12", x -> permits(x, 12));
        edges.refused("a 13th", FULL, x -> x.permit(5, 0, 7, 0, 999));
        edges.refused("a 13th of no person: BAD comes ahead", BAD, x -> x.permit(100, 0, 7, 0, 999));
        edges.refused("a 13th of no HOURS: BAD comes ahead", BAD, x -> x.permit(5, 0, 7, 9, 9));
    }

    private static void permits(TruceLine x, int n) {
        for (int p = 0; p < n; p++) x.permit(50 + p, 0, 7, 0, 999);
    }

    private static void may() {
        edges.of("promise 21: the least PERMIT that lets it (HOURS from on ahead of another one). BAD; NONE", x -> {
            x.permit(5, 2, 4, 10, 20);
            x.permit(5, 4, 6, 15, 25);
            x.permit(5, 2, 6, 0, 999);
        });
        edges.is("the first HOUR of it", 0, x -> x.may(5, 16, 10));
        edges.is("1 HOUR ahead of it", 2, x -> x.may(5, 16, 9));
        edges.is("the last HOUR of it", 0, x -> x.may(5, 16, 19));
        edges.is("the HOUR that is ahead no more", 2, x -> x.may(5, 16, 20));
        edges.is("the first CELL of its first row", 0, x -> x.may(5, 16, 12));
        edges.is("the last CELL of its last row", 0, x -> x.may(5, 39, 12));
        edges.is("of two the least", 0, x -> x.may(5, 32, 19));
        edges.is("then the second", 1, x -> x.may(5, 32, 20));
        edges.is("the row behind", 1, x -> x.may(5, 40, 19));
        edges.is("the first HOUR of all", 2, x -> x.may(5, 16, 0));
        edges.is("the last HOUR of all but one", 2, x -> x.may(5, 16, 998));
        edges.refused("the last HOUR of all", NONE, x -> x.may(5, 16, 999));
        edges.refused("the row ahead", NONE, x -> x.may(5, 15, 12));
        edges.refused("the row behind all", NONE, x -> x.may(5, 56, 12));
        edges.refused("the person below", NONE, x -> x.may(4, 16, 12));
        edges.refused("the person above", NONE, x -> x.may(6, 16, 12));
        edges.refused("the least person", NONE, x -> x.may(0, 0, 0));
        edges.refused("the greatest person", NONE, x -> x.may(99, 63, 999));
        edges.refused("a person too small", BAD, x -> x.may(-1, 16, 12));
        edges.refused("a person too large", BAD, x -> x.may(100, 16, 12));
        edges.refused("a CELL too small", BAD, x -> x.may(5, -1, 12));
        edges.refused("a CELL too large", BAD, x -> x.may(5, 64, 12));
        edges.refused("an HOUR too small", BAD, x -> x.may(5, 16, -1));
        edges.refused("an HOUR too large", BAD, x -> x.may(5, 16, 1000));
        edges.refused("the greatest numbers", BAD, x -> x.may(GREATEST, GREATEST, GREATEST));
        edges.of("promise 21: NONE, of no PERMITS");
        edges.refused("the least numbers", NONE, x -> x.may(0, 0, 0));
    }
}
