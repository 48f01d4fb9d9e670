/** The edges that DOINGS, REPORTS, LOOKS, FINDINGS and promises 22 to 30 name, sentence by sentence. */
public final class IncidentsEdgesTest {
    private static final int BAD = Edges.BAD, FULL = Edges.FULL, NONE = Edges.NONE, STATE = Edges.STATE;
    private static final int LEAST = Edges.LEAST, GREATEST = Edges.GREATEST;
    private static final int EAR = 0, EYE = 1, YES = 1, NOTHING = 0, CART = 2, DAY = 12;
    private static final Edges edges = new Edges();

    public static void main(String[] args) {
        doing();
        heard();
        seen();
        report();
        fullReports();
        let();
        takeBack();
        lets();
        left();
        worst();
        look();
        leastLook();
        finding();
        fullFindings();
        standing();
        edges.end();
    }

    private static void doings(TruceLine x, int n) {
        for (int d = 0; d < n; d++) x.doing(d % 4, d, DAY);
    }

    private static void doing() {
        edges.of("promise 22: a DOING: its number. BAD; FULL (sorts 0 .. 3, 12 at most)", x -> doings(x, 11));
        edges.is("the 12th, least of all", 11, x -> x.doing(0, 0, 0));
        edges.is("the 12th, greatest of all", 11, x -> x.doing(3, 63, 999));
        edges.is("the 12th is LEFT", 4095, x -> x.doing(3, 63, 999), x -> x.left());
        edges.refused("a sort too small", BAD, x -> x.doing(-1, 0, 0));
        edges.refused("a sort too large", BAD, x -> x.doing(4, 0, 0));
        edges.refused("a CELL too small", BAD, x -> x.doing(0, -1, 0));
        edges.refused("a CELL too large", BAD, x -> x.doing(0, 64, 0));
        edges.refused("an HOUR too small", BAD, x -> x.doing(0, 0, -1));
        edges.refused("an HOUR too large", BAD, x -> x.doing(0, 0, 1000));
        edges.refused("the least numbers", BAD, x -> x.doing(LEAST, LEAST, LEAST));
        edges.refused("the greatest numbers", BAD, x -> x.doing(GREATEST, GREATEST, GREATEST));
        edges.of("promise 22: FULL, with all 12", x -> doings(x, 12));
        edges.refused("a 13th", FULL, x -> x.doing(0, 0, 0));
        edges.refused("a 13th of no sort: BAD comes ahead", BAD, x -> x.doing(4, 0, 0));
        edges.of("promise 22: the first");
        edges.is("its number is 0", 0, x -> x.doing(0, 0, 0));
    }

    /** Whether a MARK of a KIND in CELL 0 HEARD a sort that is n APART. */
    private static void heardAt(int kind, int sort, int n, int want) {
        edges.is("KIND " + kind + ", sort " + sort + ", " + n + " APART", want, x -> {
            x.mark(kind, 0, 0, 0);
            x.doing(sort, 9 * n, DAY);
            x.report(0, DAY, EAR, YES);
        }, x -> x.lets(0, 0));
    }

    private static void heard() {
        edges.of("4 HEARD by a MARK at most EAR and its LOUDNESS APART (gun 4, mine 3, cart 1, thunder 99)");
        int[] ears = {0, 4, 0, 5, 10, 2};
        int[] loudness = {4, 3, 1, 99};
        for (int kind = 0; kind < 6; kind++) {
            for (int sort = 0; sort < 4; sort++) {
                int farthest = ears[kind] + loudness[sort];
                heardAt(kind, sort, 0, 1);
                heardAt(kind, sort, Math.min(7, farthest), 1);
                if (farthest < 7) heardAt(kind, sort, farthest + 1, 0);
            }
        }
        edges.of("4 HEARD in its HOUR", x -> {
            x.mark(3, 0, 0, 0);
            x.walk(0, 0);
            x.walk(0, 63);
            x.doing(CART, 63, 13);
            x.report(0, 12, EAR, YES);
            x.report(0, 13, EAR, YES);
            x.report(0, 14, EAR, YES);
        });
        edges.is("where it is then", 1, x -> x.lets(1, 0));
        edges.is("1 HOUR ahead: nothing", 0, x -> x.lets(0, 0));
        edges.is("1 HOUR behind: nothing", 0, x -> x.lets(2, 0));
        edges.is("mist and hills keep no sound off", 1, x -> {
            x.set(1, 5);
            for (int cell = 0; cell < 63; cell++) x.height(cell, 9);
        }, x -> x.lets(1, 0));
    }

    private static void seen() {
        edges.of("4 a gun, a mine is SEEN by one that SEES its CELL in its HOUR", x -> {
            x.mark(1, 0, 0, 0);
            for (int sort = 0; sort < 4; sort++) x.doing(sort, 3, DAY);
            for (int sort = 0; sort < 4; sort++) x.doing(sort, 4, DAY);
            x.doing(0, 3, 13);
            x.doing(0, 3, 0);
            x.doing(0, 2, 0);
            x.report(0, DAY, EYE, YES);
            x.report(0, 0, EYE, YES);
        });
        int[] seen = {1, 1, 0, 0, 0, 0, 0, 0, 0, 0, 0};
        for (int d = 0; d < seen.length; d++) {
            int doing = d;
            edges.is("DOING " + d, seen[d], x -> x.lets(0, doing));
        }
        edges.is("by night 3 APART", 0, x -> x.lets(1, 9));
        edges.is("by night 2 APART", 1, x -> x.lets(1, 10));
        edges.is("behind a hill", 0, x -> x.height(2, 1), x -> x.lets(0, 0));
        edges.is("in mist", 0, x -> x.set(1, 1), x -> x.lets(0, 0));
    }

    private static void report() {
        edges.of("promise 23: a REPORT (how: 0 ear, 1 eye; yes 1, 0): its number. BAD", x -> {
            x.mark(1, 0, 0, 0);
            x.mark(1, 2, 0, 0);
        });
        edges.is("the least of all", 0, x -> x.report(0, 0, 0, 0));
        edges.is("the greatest of all", 0, x -> x.report(1, 999, 1, 1));
        edges.is("of a MARK that is GONE now", 0, x -> x.gone(0, 1), x -> x.report(0, 0, 0, 1));
        edges.is("the same again", 1, x -> x.report(0, 0, 0, 0), x -> x.report(0, 0, 0, 0));
        edges.refused("a MARK too small", BAD, x -> x.report(-1, 0, 0, 0));
        edges.refused("a MARK too large", BAD, x -> x.report(2, 0, 0, 0));
        edges.refused("an HOUR too small", BAD, x -> x.report(0, -1, 0, 0));
        edges.refused("an HOUR too large", BAD, x -> x.report(0, 1000, 0, 0));
        edges.refused("a how too small", BAD, x -> x.report(0, 0, -1, 0));
        edges.refused("a how too large", BAD, x -> x.report(0, 0, 2, 0));
        edges.refused("a yes too small", BAD, x -> x.report(0, 0, 0, -1));
        edges.refused("a yes too large", BAD, x -> x.report(0, 0, 0, 2));
        edges.refused("the greatest numbers", BAD, x -> x.report(GREATEST, GREATEST, GREATEST, GREATEST));
        edges.of("promise 23: no MARKS");
        edges.refused("MARK 0", BAD, x -> x.report(0, 0, 0, 0));
    }

    private static void reports(TruceLine x, int n) {
        x.mark(1, 0, 0, 0);
        for (int r = 0; r < n; r++) x.report(0, 5, EAR, NOTHING);
    }

    private static void fullReports() {
        edges.of("4 REPORTS (24 at most)", x -> reports(x, 23));
        edges.is("the 24th", 23, x -> x.report(0, DAY, EYE, YES));
        edges.is("the 24th is TAKEN BACK", 23, x -> x.report(0, DAY, EYE, YES), x -> x.takeBack(23));
        edges.is("the 24th counts", 0, x -> {
            x.doing(0, 63, 999);
            x.report(0, DAY, EYE, YES);
        }, x -> x.left());
        edges.of("promise 23: FULL, with all 24", x -> reports(x, 24));
        edges.refused("a 25th", FULL, x -> x.report(0, DAY, EYE, YES));
        edges.refused("a 25th by no MARK: BAD comes ahead", BAD, x -> x.report(1, DAY, EYE, YES));
        edges.is("a 25th, though one is TAKEN BACK", FULL, x -> x.takeBack(0), x -> x.report(0, DAY, EYE, YES));
    }

    private static void letBy(String edge, int kind, int sort, int how, int yes, int want) {
        edges.is(edge, want, x -> {
            x.mark(kind, 0, 0, 0);
            x.doing(sort, 0, DAY);
            x.report(0, DAY, how, yes);
        }, x -> x.lets(0, 0));
    }

    private static void let() {
        edges.of("4 LET by a REPORT, if what it would have HEARD, or SEEN, of that DOING alone is as it tells");
        letBy("heard, yes", 1, 0, EAR, YES, 1);
        letBy("heard, no", 1, 0, EAR, NOTHING, 0);
        letBy("seen, yes", 1, 0, EYE, YES, 1);
        letBy("seen, no", 1, 0, EYE, NOTHING, 0);
        letBy("a mine seen, yes", 1, 1, EYE, YES, 1);
        letBy("a cart is not seen, yes", 1, 2, EYE, YES, 0);
        letBy("a cart is not seen, no", 1, 2, EYE, NOTHING, 1);
        letBy("thunder is not seen, yes", 1, 3, EYE, YES, 0);
        letBy("thunder is heard, yes", 0, 3, EAR, YES, 1);
        edges.of("4 a MARK that is GONE hears and sees nothing", x -> {
            x.mark(1, 0, 0, 0);
            x.doing(0, 0, DAY);
            for (int r = 0; r < 4; r++) x.report(0, DAY, r / 2, r % 2);
            x.gone(0, 1);
        });
        edges.is("heard, no", 1, x -> x.lets(0, 0));
        edges.is("heard, yes", 0, x -> x.lets(1, 0));
        edges.is("seen, no", 1, x -> x.lets(2, 0));
        edges.is("seen, yes", 0, x -> x.lets(3, 0));
        edges.is("it is back", 1, x -> x.gone(0, 0), x -> x.lets(1, 0));
    }

    private static void takeBack() {
        edges.of("promise 24: a REPORT is TAKEN BACK: how many aren't. BAD; STATE: it was", x -> {
            reports(x, 3);
            x.takeBack(1);
        });
        edges.is("the first", 1, x -> x.takeBack(0));
        edges.is("the last of all", 0, x -> x.takeBack(0), x -> x.takeBack(2));
        edges.refused("it was", STATE, x -> x.takeBack(1));
        edges.refused("a REPORT too small", BAD, x -> x.takeBack(-1));
        edges.refused("a REPORT too large", BAD, x -> x.takeBack(3));
        edges.refused("33 is not 1", BAD, x -> x.takeBack(33));
        edges.refused("the least", BAD, x -> x.takeBack(LEAST));
        edges.refused("the greatest", BAD, x -> x.takeBack(GREATEST));
        edges.is("REPORTS are counted all", 3, x -> x.takeBack(0), x -> x.count(3));
        edges.of("promise 24: of no REPORTS");
        edges.refused("REPORT 0", BAD, x -> x.takeBack(0));
    }

    private static void lets() {
        edges.of("promise 25: (also one that was TAKEN BACK): 1, 0. BAD", x -> {
            reports(x, 2);
            x.doing(0, 0, 5);
            x.doing(0, 0, 6);
            x.takeBack(0);
        });
        edges.is("not LET by one TAKEN BACK", 0, x -> x.lets(0, 0));
        edges.is("LET by one TAKEN BACK", 1, x -> x.lets(0, 1));
        edges.is("the last of both", 1, x -> x.lets(1, 1));
        edges.refused("a REPORT too small", BAD, x -> x.lets(-1, 0));
        edges.refused("a REPORT too large", BAD, x -> x.lets(2, 0));
        edges.refused("a DOING too small", BAD, x -> x.lets(0, -1));
        edges.refused("a DOING too large", BAD, x -> x.lets(0, 2));
        edges.refused("the greatest numbers", BAD, x -> x.lets(GREATEST, GREATEST));
        edges.of("promise 25: of nothing");
        edges.refused("REPORT 0, DOING 0", BAD, x -> x.lets(0, 0));
    }

    private static void left() {
        edges.of("promise 26: LEFT: DOINGS that every REPORT that isn't TAKEN BACK lets");
        edges.is("of no DOINGS", 0, x -> x.left());
        edges.is("of no REPORTS all 12", 4095, x -> doings(x, 12), x -> x.left());
        edges.of("promise 26: LEFT, by two REPORTS", x -> {
            x.mark(1, 0, 0, 0);
            x.doing(CART, 5, DAY);
            x.doing(CART, 6, DAY);
            x.doing(0, 3, DAY);
            x.report(0, DAY, EAR, YES);
            x.report(0, DAY, EYE, NOTHING);
        });
        edges.is("what both let", 1, x -> x.left());
        edges.is("what the first lets", 5, x -> x.takeBack(1), x -> x.left());
        edges.is("what the second lets", 3, x -> x.takeBack(0), x -> x.left());
        edges.is("both TAKEN BACK", 7, x -> {
            x.takeBack(0);
            x.takeBack(1);
        }, x -> x.left());
    }

    private static void worst() {
        edges.of("promise 27: WORST of a LOOK. BAD: MARK (one that is GONE, too), HOUR, how", x -> {
            x.mark(1, 0, 0, 0);
            x.mark(1, 2, 63, 0);
            x.mark(1, 1, 0, 0);
            x.gone(2, 1);
            x.doing(CART, 0, DAY);
            x.doing(CART, 5, DAY);
            x.doing(CART, 63, DAY);
            x.doing(0, 0, DAY);
        });
        edges.is("3 yes, 1 no", 3, x -> x.worst(0, DAY, EAR));
        edges.is("2 yes, 2 no", 2, x -> x.worst(1, DAY, EAR));
        edges.is("1 yes, 3 no, by eye", 3, x -> x.worst(0, DAY, EYE));
        edges.is("0 yes, 4 no", 4, x -> x.worst(1, DAY, EYE));
        edges.is("1 yes, 2 no of those that are LEFT", 2, x -> x.report(0, DAY, EYE, NOTHING),
            x -> x.worst(1, DAY, EAR));
        edges.is("in another HOUR all are no", 4, x -> x.worst(0, 999, EAR));
        edges.is("of those that are LEFT, none", 0, x -> x.report(0, 0, EAR, YES), x -> x.worst(0, DAY, EAR));
        edges.refused("a MARK too small", BAD, x -> x.worst(-1, DAY, EAR));
        edges.refused("a MARK too large", BAD, x -> x.worst(3, DAY, EAR));
        edges.refused("one that is GONE", BAD, x -> x.worst(2, DAY, EAR));
        edges.refused("an HOUR too small", BAD, x -> x.worst(0, -1, EAR));
        edges.refused("an HOUR too large", BAD, x -> x.worst(0, 1000, EAR));
        edges.refused("a how too small", BAD, x -> x.worst(0, DAY, -1));
        edges.refused("a how too large", BAD, x -> x.worst(0, DAY, 2));
        edges.refused("the greatest numbers", BAD, x -> x.worst(GREATEST, GREATEST, GREATEST));
        edges.is("it is back", 3, x -> x.gone(2, 0), x -> x.worst(2, DAY, EAR));
    }

    private static void look() {
        edges.of("promise 28: NONE: there is no MARK (that isn't GONE)", x -> doings(x, 12));
        edges.refused("no MARK", NONE, x -> x.look(DAY));
        edges.is("all are GONE", NONE, x -> {
            for (int m = 0; m < 16; m++) {
                x.mark(1, 0, m, 0);
                x.gone(m, 1);
            }
        }, x -> x.look(DAY));
        edges.refused("no MARK, an HOUR too small: BAD comes ahead", BAD, x -> x.look(-1));
        edges.refused("no MARK, an HOUR too large: BAD comes ahead", BAD, x -> x.look(1000));
        edges.refused("the least", BAD, x -> x.look(LEAST));
        edges.refused("the greatest", BAD, x -> x.look(GREATEST));
        edges.is("one MARK, in the first HOUR", 0, x -> x.mark(0, 2, 0, 0), x -> x.look(0));
        edges.is("one MARK, in the last HOUR", 0, x -> x.mark(0, 2, 0, 0), x -> x.look(999));
        edges.is("the last of 16 alone is there", 30, x -> {
            for (int m = 0; m < 16; m++) {
                x.mark(0, 0, 63, 0);
                x.gone(m, m < 15 ? 1 : 0);
            }
        }, x -> x.look(0));
    }

    private static void leastLook() {
        edges.of("4 THE LOOK: the least WORST, of like ones the least MARK, the ear first", x -> {
            x.mark(0, 0, 63, 0);
            x.mark(1, 0, 0, 0);
            x.mark(1, 1, 0, 0);
        });
        edges.is("of no DOINGS the least MARK's ear", 0, x -> x.look(DAY));
        edges.is("of one DOING all are like", 0, x -> x.doing(CART, 0, DAY), x -> x.look(DAY));
        edges.is("the ear of 1, though 2's is like", 2, x -> {
            x.doing(CART, 0, DAY);
            x.doing(CART, 6, DAY);
        }, x -> x.look(DAY));
        edges.is("the eye of 1 ahead of 2's", 3, x -> {
            x.doing(CART, 0, DAY);
            x.doing(0, 0, DAY);
        }, x -> x.look(DAY));
        edges.is("ear and eye are like: the ear", 2, x -> {
            x.doing(0, 0, DAY);
            x.doing(CART, 6, DAY);
        }, x -> x.look(DAY));
        edges.is("the eye is better than the ear", 3, x -> {
            x.doing(0, 0, DAY);
            x.doing(CART, 0, DAY);
            x.doing(CART, 1, DAY);
            x.doing(0, 1, DAY);
        }, x -> x.look(DAY));
        edges.is("a later MARK that is better", 4, x -> {
            x.gone(1, 1);
            x.doing(CART, 0, DAY);
            x.doing(CART, 6, DAY);
        }, x -> x.look(DAY));
    }

    private static void finding() {
        edges.of("promise 29: a FINDING: its number. BAD: DOING, bits", x -> {
            reports(x, 24);
            doings(x, 12);
            for (int f = 0; f < 9; f++) x.finding(f, 0, 0);
        });
        edges.is("the greatest of all", 9, x -> x.finding(11, (1 << 24) - 1, (1 << 9) - 1));
        edges.is("the least of all", 9, x -> x.finding(0, 0, 0));
        edges.refused("a DOING too small", BAD, x -> x.finding(-1, 0, 0));
        edges.refused("a DOING too large", BAD, x -> x.finding(12, 0, 0));
        edges.refused("REPORT 24 as a bit", BAD, x -> x.finding(0, 1 << 24, 0));
        edges.refused("REPORT 31 as a bit", BAD, x -> x.finding(0, LEAST, 0));
        edges.refused("all bits of REPORTS", BAD, x -> x.finding(0, -1, 0));
        edges.refused("itself as a bit", BAD, x -> x.finding(0, 0, 1 << 9));
        edges.refused("a greater one as a bit", BAD, x -> x.finding(0, 0, 1 << 10));
        edges.refused("FINDING 31 as a bit", BAD, x -> x.finding(0, 0, LEAST));
        edges.refused("all bits of FINDINGS", BAD, x -> x.finding(0, 0, -1));
        edges.of("promise 29: the first one", x -> x.doing(0, 0, 0));
        edges.is("its number is 0", 0, x -> x.finding(0, 0, 0));
        edges.refused("it leans on REPORT 0, which is none", BAD, x -> x.finding(0, 1, 0));
        edges.refused("it leans on itself", BAD, x -> x.finding(0, 0, 1));
        edges.of("promise 29: of no DOINGS");
        edges.refused("DOING 0", BAD, x -> x.finding(0, 0, 0));
    }

    private static void fullFindings() {
        edges.of("promise 29: FULL (10 at most)", x -> {
            reports(x, 2);
            doings(x, 2);
            for (int f = 0; f < 10; f++) x.finding(0, 0, 0);
        });
        edges.is("all 10 STAND", 1023, x -> x.standing());
        edges.refused("an 11th", FULL, x -> x.finding(0, 0, 0));
        edges.refused("an 11th that leans on all", FULL, x -> x.finding(0, 3, 1023));
        edges.refused("an 11th of no DOING: BAD comes ahead", BAD, x -> x.finding(2, 0, 0));
        edges.refused("an 11th on no REPORT: BAD comes ahead", BAD, x -> x.finding(0, 4, 0));
        edges.refused("an 11th on itself: BAD comes ahead", BAD, x -> x.finding(0, 0, 1024));
    }

    private static void standing() {
        edges.of("promise 30: STANDS, if none of its REPORTS is TAKEN BACK, each lets it, all it leans on STAND");
        edges.is("of no FINDINGS", 0, x -> x.standing());
        edges.of("promise 30: a chain of 10", x -> {
            reports(x, 2);
            x.doing(0, 63, 999);
            x.doing(0, 0, 5);
            x.finding(0, 1, 0);
            for (int f = 1; f < 10; f++) x.finding(0, 0, 1 << f - 1);
        });
        edges.is("all STAND", 1023, x -> x.standing());
        edges.is("the first falls: all fall", 0, x -> x.takeBack(0), x -> x.standing());
        edges.is("a REPORT on which none leans", 1023, x -> x.takeBack(1), x -> x.standing());
        edges.of("promise 30: side by side", x -> {
            reports(x, 2);
            x.doing(0, 63, 999);
            x.doing(0, 0, 5);
            x.finding(0, 3, 0);
            x.finding(1, 1, 0);
            x.finding(1, 0, 0);
            x.finding(0, 0, 3);
            x.finding(0, 2, 5);
        });
        edges.is("one that a REPORT does not let, and what leans on it", 1 + 4 + 16, x -> x.standing());
        edges.is("leaning on nothing it STANDS, though its DOING is not LEFT", 1, x -> x.standing() >> 2 & 1);
        edges.is("one of its two REPORTS is TAKEN BACK", 4, x -> x.takeBack(1), x -> x.standing());
        edges.is("it lets, but is TAKEN BACK", 4, x -> x.takeBack(0), x -> x.standing());
        edges.is("the teller is GONE: all are let", 31, x -> x.gone(0, 1), x -> x.standing());
    }
}
