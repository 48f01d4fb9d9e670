/** The edges that PROTESTS, LISTS and promises 38 to 44 name, sentence by sentence. */
public final class PapersEdgesTest {
    private static final int BAD = Edges.BAD, FULL = Edges.FULL, NONE = Edges.NONE, STATE = Edges.STATE;
    private static final int LEAST = Edges.LEAST, GREATEST = Edges.GREATEST;
    private static final long NO = Edges.NO, HIGHEST = 1L << 63;
    private static final Edges edges = new Edges();

    public static void main(String[] args) {
        protest();
        fullProtests();
        answer();
        lateInTime();
        lateAnswered();
        late();
        blame();
        listed();
        alone();
        count();
        countWhenFull();
        edges.end();
    }

    private static void protest() {
        edges.of("promise 38: a PROTEST: its number. BAD: SIDE, HOURS (about one behind it)");
        edges.is("the least of all", 0, x -> x.protest(0, 0, 0));
        edges.is("the greatest of all", 0, x -> x.protest(1, 999, 999));
        edges.is("about the first HOUR", 0, x -> x.protest(1, 999, 0));
        edges.is("the second", 1, x -> x.protest(0, 5, 5), x -> x.protest(0, 5, 5));
        edges.refused("a SIDE too small", BAD, x -> x.protest(-1, 5, 5));
        edges.refused("a SIDE too large: the watchers'", BAD, x -> x.protest(2, 5, 5));
        edges.refused("an HOUR too small", BAD, x -> x.protest(0, -1, 0));
        edges.refused("an HOUR too large", BAD, x -> x.protest(0, 1000, 0));
        edges.refused("both HOURS too large", BAD, x -> x.protest(0, 1000, 1000));
        edges.refused("both HOURS too small", BAD, x -> x.protest(0, -1, -1));
        edges.refused("about one too small", BAD, x -> x.protest(0, 5, -1));
        edges.refused("about one behind it by 1", BAD, x -> x.protest(0, 5, 6));
        edges.refused("the least numbers", BAD, x -> x.protest(LEAST, LEAST, LEAST));
        edges.refused("the greatest numbers", BAD, x -> x.protest(GREATEST, GREATEST, GREATEST));
    }

    private static void protests(TruceLine x, int n) {
        for (int p = 0; p < n; p++) x.protest(p % 2, 10, p / 2 % 10);
    }

    private static void fullProtests() {
        edges.of("6 PROTESTS (20 at most, numbered from 0)", x -> protests(x, 19));
        edges.is("the 20th", 19, x -> x.protest(1, 900, 5));
        edges.is("the 20th is ANSWERED", 99, x -> x.protest(1, 900, 5), x -> x.answer(19, 999));
        edges.is("the 20th is LATE", 0xFFFFF, x -> x.protest(1, 900, 5), x -> x.late(948));
        edges.of("promise 38: FULL, with all 20", x -> protests(x, 20));
        edges.refused("a 21st", FULL, x -> x.protest(0, 5, 5));
        edges.refused("a 21st of SIDE 2: BAD comes ahead", BAD, x -> x.protest(2, 5, 5));
        edges.refused("a 21st about one behind it: BAD comes ahead", BAD, x -> x.protest(0, 5, 6));
        edges.is("a 21st, though one is ANSWERED", FULL, x -> x.answer(0, 10), x -> x.protest(0, 5, 5));
    }

    private static void answer() {
        edges.of("promise 39: ANSWERED: how many HOURS it took. BAD: no such, ahead of it; STATE: it was", x -> {
            x.protest(0, 10, 3);
            x.protest(1, 20, 3);
            x.answer(1, 30);
        });
        edges.is("in that HOUR", 0, x -> x.answer(0, 10));
        edges.is("1 HOUR later", 1, x -> x.answer(0, 11));
        edges.is("in the last HOUR", 989, x -> x.answer(0, 999));
        edges.refused("1 HOUR ahead of it", BAD, x -> x.answer(0, 9));
        edges.refused("an HOUR too small", BAD, x -> x.answer(0, -1));
        edges.refused("an HOUR too large", BAD, x -> x.answer(0, 1000));
        edges.refused("a PROTEST too small", BAD, x -> x.answer(-1, 50));
        edges.refused("a PROTEST too large", BAD, x -> x.answer(2, 50));
        edges.refused("it was", STATE, x -> x.answer(1, 31));
        edges.refused("it was, the same again", STATE, x -> x.answer(1, 30));
        edges.refused("it was, earlier", STATE, x -> x.answer(1, 20));
        edges.refused("it was, but ahead of it: BAD comes ahead", BAD, x -> x.answer(1, 19));
        edges.refused("it was, but no HOUR: BAD comes ahead", BAD, x -> x.answer(1, 1000));
        edges.refused("the greatest numbers", BAD, x -> x.answer(GREATEST, GREATEST));
        edges.of("promise 39: no PROTESTS");
        edges.refused("PROTEST 0", BAD, x -> x.answer(0, 5));
        edges.of("promise 39: a PROTEST of HOUR 0", x -> x.protest(0, 0, 0));
        edges.is("ANSWERED in HOUR 0", 0, x -> x.answer(0, 0));
        edges.is("it was", STATE, x -> x.answer(0, 0), x -> x.answer(0, 1));
    }

    private static void lateInTime() {
        edges.of("6 LATE: made 48 HOURS ago or more", x -> {
            x.protest(0, 0, 0);
            x.protest(1, 100, 0);
            x.protest(1, 951, 0);
            x.protest(0, 952, 0);
        });
        edges.is("0 HOURS ago", 0, x -> x.late(0));
        edges.is("47 HOURS ago", 0, x -> x.late(47));
        edges.is("48 HOURS ago", 1, x -> x.late(48));
        edges.is("49 HOURS ago", 1, x -> x.late(49));
        edges.is("the second 47 HOURS ago", 1, x -> x.late(147));
        edges.is("the second 48 HOURS ago", 3, x -> x.late(148));
        edges.is("1 ahead of the last HOUR", 3, x -> x.late(998));
        edges.is("the last HOUR, 48 and 47 HOURS ago", 7, x -> x.late(999));
    }

    private static void lateAnswered() {
        edges.of("6 LATE: and was not ANSWERED till then", x -> x.protest(0, 10, 0));
        edges.is("ANSWERED at once", 0, x -> x.answer(0, 10), x -> x.late(999));
        edges.is("ANSWERED 47 HOURS later", 0, x -> x.answer(0, 57), x -> x.late(58));
        edges.is("ANSWERED 48 HOURS later", 0, x -> x.answer(0, 58), x -> x.late(58));
        edges.is("ANSWERED 49 HOURS later: LATE the HOUR ahead", 1, x -> x.answer(0, 59), x -> x.late(58));
        edges.is("ANSWERED 49 HOURS later: not in that HOUR", 0, x -> x.answer(0, 59), x -> x.late(59));
        edges.is("ANSWERED in the last HOUR: LATE till then", 1, x -> x.answer(0, 999), x -> x.late(998));
        edges.is("ANSWERED in the last HOUR", 0, x -> x.answer(0, 999), x -> x.late(999));
        edges.is("never ANSWERED", 1, x -> x.late(999));
    }

    private static void late() {
        edges.of("promise 40: LATE (bits). BAD", x -> protests(x, 20));
        edges.is("all 20", 0xFFFFF, x -> x.late(58));
        edges.is("none", 0, x -> x.late(57));
        edges.refused("an HOUR too small", BAD, x -> x.late(-1));
        edges.refused("an HOUR too large", BAD, x -> x.late(1000));
        edges.refused("the least", BAD, x -> x.late(LEAST));
        edges.refused("the greatest", BAD, x -> x.late(GREATEST));
        edges.of("promise 40: of no PROTESTS");
        edges.is("none", 0, x -> x.late(999));
    }

    private static void blame() {
        edges.of("promise 41: the least PROTEST by which one is BLAMED back. BAD; NONE: none", x -> {
            x.protest(0, 10, 3);
            x.protest(0, 10, 3);
            x.protest(1, 10, 4);
            x.protest(1, 90, 3);
            x.protest(1, 10, 3);
            x.protest(0, 10, 2);
        });
        edges.is("of two the least", 3, x -> x.blame(0));
        edges.is("not by its own SIDE", 3, x -> x.blame(1));
        edges.is("back, of two the least", 0, x -> x.blame(3));
        edges.is("back, though made in another HOUR", 0, x -> x.blame(4));
        edges.is("one that is ANSWERED", 3, x -> x.answer(3, 90), x -> x.blame(0));
        edges.refused("none about 1 HOUR later", NONE, x -> x.blame(2));
        edges.refused("none about 1 HOUR ahead", NONE, x -> x.blame(5));
        edges.refused("a PROTEST too small", BAD, x -> x.blame(-1));
        edges.refused("a PROTEST too large", BAD, x -> x.blame(6));
        edges.refused("the least", BAD, x -> x.blame(LEAST));
        edges.refused("the greatest", BAD, x -> x.blame(GREATEST));
        edges.of("promise 41: of no PROTESTS");
        edges.refused("PROTEST 0", BAD, x -> x.blame(0));
        edges.of("promise 41: NONE, about HOUR 0", x -> x.protest(1, 10, 0));
        edges.refused("one alone", NONE, x -> x.blame(0));
        edges.is("then another one", 1, x -> x.protest(0, 0, 0), x -> x.blame(0));
        edges.of("promise 41: NONE, 20 of one SIDE", x -> {
            for (int p = 0; p < 20; p++) x.protest(1, 10, 0);
        });
        edges.refused("the first", NONE, x -> x.blame(0));
        edges.refused("the last", NONE, x -> x.blame(19));
        edges.of("promise 41: of 20", x -> protests(x, 20));
        edges.is("by the last", 19, x -> {
            for (int p = 0; p < 18; p++) x.answer(p, 10);
        }, x -> x.blame(18));
        edges.is("the last", 18, x -> x.blame(19));
    }

    private static void listed() {
        edges.of("promise 42: a person comes onto a LIST (1), or off it (0): what it was. BAD", x -> {
            x.listed(0, 63, 1);
            x.listed(1, 0, 1);
        });
        edges.is("the least comes on", 0, x -> x.listed(0, 0, 1));
        edges.is("the greatest comes on", 0, x -> x.listed(1, 63, 1));
        edges.is("the greatest is on", 1, x -> x.listed(0, 63, 1));
        edges.is("the greatest comes off", 1, x -> x.listed(0, 63, 0));
        edges.is("the greatest is off", 0, x -> x.listed(0, 63, 0), x -> x.listed(0, 63, 0));
        edges.is("the least comes off", 1, x -> x.listed(1, 0, 0));
        edges.is("one that is off comes off", 0, x -> x.listed(1, 32, 0));
        edges.is("31 is not 63", 0, x -> x.listed(0, 31, 1));
        edges.refused("a SIDE too small", BAD, x -> x.listed(-1, 5, 1));
        edges.refused("a SIDE too large: the watchers'", BAD, x -> x.listed(2, 5, 1));
        edges.refused("a person too small", BAD, x -> x.listed(0, -1, 1));
        edges.refused("a person too large", BAD, x -> x.listed(0, 64, 1));
        edges.refused("2 is neither", BAD, x -> x.listed(0, 5, 2));
        edges.refused("-1 is neither", BAD, x -> x.listed(0, 5, -1));
        edges.refused("the greatest numbers", BAD, x -> x.listed(GREATEST, GREATEST, GREATEST));
    }

    private static void alone() {
        edges.of("promise 43: ALONE; -1: on either one alone. NO: no such SIDE. (63 is the highest bit)", x -> {
            x.listed(0, 63, 1);
            x.listed(0, 0, 1);
            x.listed(0, 31, 1);
            x.listed(1, 31, 1);
            x.listed(1, 32, 1);
        });
        edges.is("SIDE 0: it is below 0", HIGHEST | 1, x -> x.alone(0));
        edges.is("SIDE 1", 1L << 32, x -> x.alone(1));
        edges.is("either", HIGHEST | 1 | 1L << 32, x -> x.alone(-1));
        edges.is("63 on both", 1, x -> x.listed(1, 63, 1), x -> x.alone(0));
        edges.is("31 off SIDE 0's", 3L << 31, x -> x.listed(0, 31, 0), x -> x.alone(1));
        edges.refused("a SIDE too small", NO, x -> x.alone(-2));
        edges.refused("a SIDE too large", NO, x -> x.alone(2));
        edges.refused("the least", NO, x -> x.alone(LEAST));
        edges.refused("the greatest", NO, x -> x.alone(GREATEST));
        edges.of("promise 43: of LISTS of all 64", x -> {
            for (int person = 0; person < 64; person++) x.listed(1, person, 1);
        });
        edges.is("SIDE 1: all", -1L, x -> x.alone(1));
        edges.is("SIDE 0: none", 0, x -> x.alone(0));
        edges.is("either: all", -1L, x -> x.alone(-1));
        edges.is("either: none", 0, x -> {
            for (int person = 0; person < 64; person++) x.listed(0, person, 1);
        }, x -> x.alone(-1));
    }

    private static void count() {
        edges.of("promise 44: How many. BAD");
        for (int what = 0; what < 12; what++) {
            int w = what;
            edges.is("at first, what " + w, w == 7 ? 1 : 0, x -> x.count(w));
        }
        edges.refused("a what too small", BAD, x -> x.count(-1));
        edges.refused("a what too large", BAD, x -> x.count(12));
        edges.refused("the least", BAD, x -> x.count(LEAST));
        edges.refused("the greatest", BAD, x -> x.count(GREATEST));
    }

    private static void countWhenFull() {
        edges.of("promise 44: How many, when all are FULL", x -> {
            for (int i = 0; i < 17; i++) x.mark(1, 0, 0, 0);
            for (int i = 0; i < 13; i++) x.permit(0, 0, 0, 0, 1);
            for (int i = 0; i < 13; i++) x.doing(0, 0, 0);
            for (int i = 0; i < 25; i++) x.report(0, 0, 0, 1);
            for (int i = 0; i < 11; i++) x.finding(0, 0, 0);
            for (int i = 0; i < 21; i++) x.protest(0, 0, 0);
            for (int i = 0; i < 11; i++) x.list(0);
            for (int i = 0; i < 6; i++) Tape.text(x, "breach 0;shoot 0;");
            x.text();
            for (int i = 0; i < 170; i++) x.feed(1, 0);
            for (int i = 0; i < 3; i++) x.force(i, 5 - i);
        });
        int[] full = {16, 12, 12, 24, 10, 20, 10, 6, 160, 5, 4, 3};
        for (int what = 0; what < 12; what++) {
            int w = what;
            edges.is("what " + w, full[w], x -> x.count(w));
        }
    }
}
