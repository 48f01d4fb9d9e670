/** The edges that MARKS and promises 6 to 11 and 49 name, sentence by sentence. */
public final class MarksEdgesTest {
    private static final int BAD = Edges.BAD, FULL = Edges.FULL, UNLIKE = Edges.UNLIKE, NOTHING = Edges.NOTHING;
    private static final int LEAST = Edges.LEAST, GREATEST = Edges.GREATEST;
    private static final int PLAIN = 0, POST = 1, GUN = 2, PATROL = 3, STEALTH = 4, BATTERY = 5;
    private static final Edges edges = new Edges();

    public static void main(String[] args) {
        mark();
        fullMarks();
        walkers();
        walk();
        gone();
        markTold();
        at();
        sightByHeight();
        sightByNight();
        sightInMist();
        sight();
        ears();
        taken();
        edges.end();
    }

    private static void mark() {
        edges.of("promise 6: a MARK: its number. BAD; FULL (KINDS 0 .. 5, SIDES 0 .. 2, SIZE 0 .. 99)");
        edges.is("the first is 0", 0, x -> x.mark(PLAIN, 0, 0, 0));
        edges.is("the greatest of all", 0, x -> x.mark(BATTERY, 2, 63, 99));
        edges.is("the greatest SIZE is told", 99, x -> x.mark(BATTERY, 2, 63, 99), x -> x.markTold(0, 2));
        edges.is("the least SIZE is told", 0, x -> x.mark(BATTERY, 2, 63, 0), x -> x.markTold(0, 2));
        edges.is("two in one CELL", 1, x -> x.mark(POST, 0, 5, 1), x -> x.mark(POST, 1, 5, 1));
        edges.is("one that is refused takes no number", 0, x -> x.mark(POST, 0, 64, 1), x -> x.mark(POST, 0, 5, 1));
        edges.refused("a KIND too small", BAD, x -> x.mark(-1, 0, 0, 0));
        edges.refused("a KIND too large", BAD, x -> x.mark(6, 0, 0, 0));
        edges.refused("a SIDE too small", BAD, x -> x.mark(PLAIN, -1, 0, 0));
        edges.refused("a SIDE too large", BAD, x -> x.mark(PLAIN, 3, 0, 0));
        edges.refused("a CELL too small", BAD, x -> x.mark(PLAIN, 0, -1, 0));
        edges.refused("a CELL too large", BAD, x -> x.mark(PLAIN, 0, 64, 0));
        edges.refused("a SIZE too small", BAD, x -> x.mark(PLAIN, 0, 0, -1));
        edges.refused("a SIZE too large", BAD, x -> x.mark(PLAIN, 0, 0, 100));
        edges.refused("the least numbers", BAD, x -> x.mark(LEAST, LEAST, LEAST, LEAST));
        edges.refused("the greatest numbers", BAD, x -> x.mark(GREATEST, GREATEST, GREATEST, GREATEST));
    }

    private static void fullMarks() {
        edges.of("2 MARKS: 16 at most, numbered from 0", x -> marks(x, 15));
        edges.is("the 16th", 15, x -> x.mark(POST, 0, 5, 1));
        edges.of("2 MARKS: 16 at most, all 16 made", x -> marks(x, 16));
        edges.refused("a 17th", FULL, x -> x.mark(POST, 0, 5, 1));
        edges.refused("a 17th of a wrong KIND: BAD comes ahead", BAD, x -> x.mark(6, 0, 5, 1));
        edges.refused("a 17th of a wrong SIZE: BAD comes ahead", BAD, x -> x.mark(POST, 0, 5, 100));
        edges.is("a 17th, though one is GONE", FULL, x -> x.gone(5, 1), x -> x.mark(POST, 0, 5, 1));
        edges.is("the last is told", 15, x -> x.markTold(15, 2));
        edges.refused("MARK 16 is none", BAD, x -> x.markTold(16, 2));
    }

    private static void marks(TruceLine x, int n) {
        for (int m = 0; m < n; m++) x.mark(m % 6, m % 3, m, m);
    }

    private static void walkers() {
        edges.of("2 WALKS: 6 at most, none at first: it stays; the place of h modulo how many", x -> {
            for (int kind = 0; kind < 6; kind++) x.mark(kind, 0, 40 + kind, 0);
        });
        for (int kind = 0; kind < 6; kind++) {
            int k = kind;
            edges.is("KIND " + k + " stays in HOUR 0", 40 + k, x -> x.at(k, 0));
            edges.is("KIND " + k + " stays in HOUR 999", 40 + k, x -> x.at(k, 999));
        }
        edges.is("with one CELL it leaves its own", 7, x -> x.walk(PATROL, 7), x -> x.at(PATROL, 0));
        edges.is("with one CELL it is there in all HOURS", 7, x -> x.walk(PATROL, 7), x -> x.at(PATROL, 999));
        for (int n = 2; n <= 6; n++) {
            int many = n;
            edges.is(n + " CELLS, in HOUR 0", 10, x -> steps(x, STEALTH, many), x -> x.at(STEALTH, 0));
            edges.is(n + " CELLS, in the last one's HOUR", 9 + n, x -> steps(x, STEALTH, many),
                x -> x.at(STEALTH, many - 1));
            edges.is(n + " CELLS, round again", 10, x -> steps(x, STEALTH, many), x -> x.at(STEALTH, many));
            edges.is(n + " CELLS, in HOUR 999", 10 + 999 % n, x -> steps(x, STEALTH, many), x -> x.at(STEALTH, 999));
        }
        edges.is("one CELL twice", 10, x -> {
            x.walk(PATROL, 10);
            x.walk(PATROL, 10);
            x.walk(PATROL, 11);
        }, x -> x.at(PATROL, 4));
    }

    private static void steps(TruceLine x, int mark, int n) {
        for (int i = 0; i < n; i++) x.walk(mark, 10 + i);
    }

    private static void walk() {
        edges.of("promise 7: a CELL more that a PATROL walks. BAD; -13: no PATROL, nor under one; FULL", x -> {
            for (int kind = 0; kind < 6; kind++) x.mark(kind, 0, 40 + kind, 0);
            steps(x, PATROL, 5);
        });
        edges.is("the 6th", 6, x -> x.walk(PATROL, 63));
        edges.is("the 6th stands", 63, x -> x.walk(PATROL, 63), x -> x.at(PATROL, 5));
        edges.is("the first of another one", 1, x -> x.walk(STEALTH, 0));
        edges.is("one that is GONE walks on", 6, x -> x.gone(PATROL, 1), x -> x.walk(PATROL, 0));
        edges.refused("a CELL too small", BAD, x -> x.walk(PATROL, -1));
        edges.refused("a CELL too large", BAD, x -> x.walk(PATROL, 64));
        edges.refused("a MARK too small", BAD, x -> x.walk(-1, 5));
        edges.refused("a MARK too large", BAD, x -> x.walk(6, 5));
        edges.refused("the greatest numbers", BAD, x -> x.walk(GREATEST, GREATEST));
        int[] others = {PLAIN, POST, GUN, BATTERY};
        for (int kind : others) {
            edges.refused("KIND " + kind + " is no PATROL", UNLIKE, x -> x.walk(kind, 5));
            edges.refused("KIND " + kind + " and no CELL: BAD comes ahead", BAD, x -> x.walk(kind, 64));
        }
        edges.of("promise 7: FULL, with all 6 CELLS", x -> {
            x.mark(PATROL, 0, 40, 0);
            steps(x, 0, 6);
            x.mark(POST, 0, 40, 0);
        });
        edges.refused("a 7th", FULL, x -> x.walk(0, 5));
        edges.refused("a 7th that is no CELL: BAD comes ahead", BAD, x -> x.walk(0, 64));
        edges.refused("no PATROL", UNLIKE, x -> x.walk(1, 5));
    }

    private static void gone() {
        edges.of("promise 8: a MARK is GONE (1), or is not (0): what it was. BAD", x -> {
            x.mark(POST, 0, 5, 1);
            x.mark(POST, 1, 6, 1);
            x.gone(1, 1);
        });
        edges.is("it goes", 0, x -> x.gone(0, 1));
        edges.is("it stays", 0, x -> x.gone(0, 0));
        edges.is("it is GONE already", 1, x -> x.gone(1, 1));
        edges.is("it comes back", 1, x -> x.gone(1, 0));
        edges.is("it is back", 0, x -> x.gone(1, 0), x -> x.markTold(1, 3));
        edges.is("it is no less GONE by another one", 1, x -> x.gone(0, 0), x -> x.markTold(1, 3));
        edges.refused("a MARK too small", BAD, x -> x.gone(-1, 1));
        edges.refused("a MARK too large", BAD, x -> x.gone(2, 1));
        edges.refused("2 is neither", BAD, x -> x.gone(0, 2));
        edges.refused("-1 is neither", BAD, x -> x.gone(0, -1));
        edges.refused("the greatest numbers", BAD, x -> x.gone(GREATEST, GREATEST));
    }

    private static void markTold() {
        edges.of("promise 9: of a MARK 0 .. 5. BAD", x -> {
            x.mark(STEALTH, 2, 5, 99);
            x.gone(0, 1);
            x.hold(0, 1);
        });
        int[] told = {STEALTH, 2, 99, 1, 10, 1};
        for (int what = 0; what < 6; what++) {
            int w = what;
            edges.is("what " + w, told[w], x -> x.markTold(0, w));
            edges.refused("a MARK too small, what " + w, BAD, x -> x.markTold(-1, w));
            edges.refused("a MARK too large, what " + w, BAD, x -> x.markTold(1, w));
        }
        edges.refused("a what too small", BAD, x -> x.markTold(0, -1));
        edges.refused("a what too large", BAD, x -> x.markTold(0, 6));
        edges.refused("the greatest numbers", BAD, x -> x.markTold(GREATEST, GREATEST));
    }

    private static void at() {
        edges.of("promise 10: where a MARK is in an HOUR. BAD", x -> {
            x.mark(POST, 0, 0, 1);
            x.mark(POST, 0, 63, 1);
        });
        edges.is("in the least CELL", 0, x -> x.at(0, 0));
        edges.is("in the greatest CELL", 63, x -> x.at(1, 999));
        edges.is("where one is that is GONE", 63, x -> x.gone(1, 1), x -> x.at(1, 999));
        edges.refused("a MARK too small", BAD, x -> x.at(-1, 0));
        edges.refused("a MARK too large", BAD, x -> x.at(2, 0));
        edges.refused("an HOUR too small", BAD, x -> x.at(0, -1));
        edges.refused("an HOUR too large", BAD, x -> x.at(0, 1000));
    }

    private static void sights(String when, int hour, int height, int... want) {
        for (int kind = 0; kind < 6; kind++) {
            int k = kind;
            edges.is("KIND " + k + " " + when, want[k], x -> x.height(40, height), x -> x.sight(k, hour));
        }
    }

    private static void oneOfEach(TruceLine x) {
        for (int kind = 0; kind < 6; kind++) x.mark(kind, 0, 40, 0);
    }

    private static void sightByHeight() {
        edges.of("2 SIGHT: a POST 1 more from HEIGHT 5 or above", MarksEdgesTest::oneOfEach);
        sights("from HEIGHT 0", 12, 0, 0, 3, 0, 2, 2, 1);
        sights("from HEIGHT 4", 12, 4, 0, 3, 0, 2, 2, 1);
        sights("from HEIGHT 5", 12, 5, 0, 4, 0, 3, 3, 1);
        sights("from HEIGHT 9", 12, 9, 0, 4, 0, 3, 3, 1);
    }

    private static void sightByNight() {
        edges.of("2 SIGHT: a POST 1 less by night; STEALTH by night as a POST by day", MarksEdgesTest::oneOfEach);
        sights("in the last HOUR of a night", 5, 0, 0, 2, 0, 1, 3, 1);
        sights("in the first HOUR of a day", 6, 0, 0, 3, 0, 2, 2, 1);
        sights("in the last HOUR of a day", 19, 0, 0, 3, 0, 2, 2, 1);
        sights("in the first HOUR of a night", 20, 0, 0, 2, 0, 1, 3, 1);
        sights("by night from HEIGHT 4", 0, 4, 0, 2, 0, 1, 3, 1);
        sights("by night from HEIGHT 5", 0, 5, 0, 3, 0, 2, 4, 1);
    }

    private static void sightInMist() {
        int[] day = {0, 4, 0, 3, 3, 1};
        int[] night = {0, 2, 0, 1, 3, 1};
        for (int mist = 0; mist < 6; mist++) {
            int n = mist;
            edges.of("2 SIGHT is less by MIST, 0 at least, MIST " + n, x -> {
                oneOfEach(x);
                x.set(1, n);
            });
            for (int kind = 0; kind < 6; kind++) {
                int k = kind;
                edges.is("KIND " + k + " by day from HEIGHT 5", Math.max(0, day[k] - n), x -> x.height(40, 5),
                    x -> x.sight(k, 12));
                edges.is("KIND " + k + " by night", Math.max(0, night[k] - n), x -> x.sight(k, 0));
                edges.is("KIND " + k + " still sees its own CELL", 1, x -> x.sees(k, 0) >> 40 & 1);
            }
        }
    }

    private static void sight() {
        edges.of("promise 11: SIGHT where it is then, MIST taken off. BAD", x -> {
            x.mark(PATROL, 0, 40, 0);
            x.height(41, 5);
            x.walk(0, 40);
            x.walk(0, 41);
        });
        edges.is("at its first place", 2, x -> x.sight(0, 12));
        edges.is("at its second, higher place", 3, x -> x.sight(0, 13));
        edges.is("one that is GONE has its SIGHT", 3, x -> x.gone(0, 1), x -> x.sight(0, 13));
        edges.is("in the last HOUR", 3, x -> x.sight(0, 999));
        edges.refused("a MARK too small", BAD, x -> x.sight(-1, 12));
        edges.refused("a MARK too large", BAD, x -> x.sight(1, 12));
        edges.refused("an HOUR too small", BAD, x -> x.sight(0, -1));
        edges.refused("an HOUR too large", BAD, x -> x.sight(0, 1000));
        edges.refused("the greatest numbers", BAD, x -> x.sight(GREATEST, GREATEST));
    }

    private static void ears() {
        edges.of("2 EAR: MARK 0; POST 4; PATROL 1 more; STEALTH twice PATROL's; GUN as a MARK; BATTERY 2 more",
            MarksEdgesTest::oneOfEach);
        int[] ears = {0, 4, 0, 5, 10, 2};
        for (int kind = 0; kind < 6; kind++) {
            int k = kind;
            edges.is("KIND " + k, ears[k], x -> x.markTold(k, 4));
            edges.is("KIND " + k + " in mist, on a hill", ears[k], x -> {
                x.set(1, 5);
                x.height(40, 9);
            }, x -> x.markTold(k, 4));
        }
    }

    private static void taken() {
        edges.of("promise 49: a MARK taken for a KIND or one under it: its SIZE. BAD: k; -11; -13", x -> {
            for (int kind = 0; kind < 6; kind++) x.mark(kind, 0, 40, 70 + kind);
            x.gone(BATTERY, 1);
        });
        String[] under = {"100000", "110000", "101000", "110100", "110110", "101001"};
        for (int kind = 0; kind < 6; kind++) {
            for (int other = 0; other < 6; other++) {
                int m = kind;
                int k = other;
                if (under[m].charAt(k) == '1') edges.is("KIND " + m + " for " + k, 70 + m, x -> x.taken(m, k));
                else edges.refused("KIND " + m + " for " + k, UNLIKE, x -> x.taken(m, k));
            }
        }
        edges.is("SIZE 0", 0, x -> x.mark(STEALTH, 1, 0, 0), x -> x.taken(6, POST));
        edges.refused("a k too small", BAD, x -> x.taken(0, -1));
        edges.refused("a k too large", BAD, x -> x.taken(0, 6));
        edges.refused("a MARK too small", NOTHING, x -> x.taken(-1, 0));
        edges.refused("a MARK too large", NOTHING, x -> x.taken(6, 0));
        edges.refused("no MARK will ever be that", NOTHING, x -> x.taken(16, 0));
        edges.refused("neither MARK nor k: BAD comes ahead", BAD, x -> x.taken(6, 6));
        edges.refused("the greatest numbers", BAD, x -> x.taken(GREATEST, GREATEST));
        edges.refused("the least MARK", NOTHING, x -> x.taken(LEAST, 5));
    }
}
