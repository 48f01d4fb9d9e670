/** Promises 22 to 30: doing, report, takeBack, lets, left, worst, look, finding, standing. */
public final class IncidentsTest {
    private static final Due due = new Due();

    public static void main(String[] args) {
        doings();
        reports();
        hearing();
        looking();
        takingBack();
        parting();
        leastLooks();
        findings();
        due.end();
    }

    private static void doings() {
        TruceLine x = new TruceLine();
        due.is("sort -1", x.doing(-1, 0, 0), -2);
        due.is("sort 4", x.doing(4, 0, 0), -2);
        due.is("cell -1", x.doing(0, -1, 0), -2);
        due.is("cell 64", x.doing(0, 64, 0), -2);
        due.is("hour -1", x.doing(0, 0, -1), -2);
        due.is("hour 1000", x.doing(0, 0, 1000), -2);
        for (int d = 0; d < 12; d++) due.is("doing " + d, x.doing(d % 4, 63, 999), d);
        due.is("a 13th", x.doing(0, 0, 0), -4);
        due.is("a wrong 13th", x.doing(4, 0, 0), -2);
        due.is("count", x.count(2), 12);
        due.is("all left", x.left(), 4095);
    }

    private static void reports() {
        TruceLine x = new TruceLine();
        due.is("no MARK", x.report(0, 0, 0, 0), -2);
        x.mark(1, 0, 0, 0);
        due.is("hour -1", x.report(0, -1, 0, 0), -2);
        due.is("hour 1000", x.report(0, 1000, 0, 0), -2);
        due.is("how 2", x.report(0, 0, 2, 0), -2);
        due.is("how -1", x.report(0, 0, -1, 0), -2);
        due.is("yes 2", x.report(0, 0, 0, 2), -2);
        due.is("yes -1", x.report(0, 0, 0, -1), -2);
        due.is("MARK -1", x.report(-1, 0, 0, 0), -2);
        x.gone(0, 1);
        for (int r = 0; r < 24; r++) due.is("report " + r, x.report(0, 999, r % 2, 0), r);
        due.is("a 25th", x.report(0, 0, 0, 0), -4);
        due.is("a wrong 25th", x.report(1, 0, 0, 0), -2);
        due.is("count", x.count(3), 24);
        due.is("takeBack of the last", x.takeBack(23), 23);
    }

    /** A MARK in CELL 0 and sounds n APART: what its REPORT of yes lets. */
    private static void heardFarthest(int kind, int sort, int farthest) {
        TruceLine x = new TruceLine();
        x.mark(kind, 0, 0, 0);
        x.report(0, 5, 0, 1);
        x.report(0, 5, 0, 0);
        for (int n = 0; n < 8; n++) {
            x.doing(sort, n, 5);
            int want = n <= farthest ? 1 : 0;
            due.is("kind " + kind + " hears sort " + sort + ", " + n + " APART", x.lets(0, n), want);
            due.is("kind " + kind + " hears nothing of sort " + sort + ", " + n + " APART", x.lets(1, n), 1 - want);
        }
    }

    private static void hearing() {
        heardFarthest(0, 0, 4);
        heardFarthest(0, 1, 3);
        heardFarthest(0, 2, 1);
        heardFarthest(0, 3, 7);
        heardFarthest(1, 2, 5);
        heardFarthest(1, 1, 7);
        heardFarthest(2, 1, 3);
        heardFarthest(3, 2, 6);
        heardFarthest(4, 2, 7);
        heardFarthest(5, 0, 6);
        heardFarthest(5, 2, 3);
        TruceLine x = new TruceLine();
        x.mark(3, 0, 0, 0);
        x.walk(0, 0);
        x.walk(0, 63);
        x.doing(2, 0, 10);
        x.doing(2, 0, 11);
        x.report(0, 10, 0, 1);
        x.report(0, 11, 0, 1);
        due.is("where it was", x.lets(0, 0), 1);
        due.is("in another HOUR", x.lets(0, 1), 0);
        due.is("where it was then", x.lets(1, 1), 0);
        x.gone(0, 1);
        due.is("gone now", x.lets(0, 0), 0);
        due.is("no REPORT", x.lets(2, 0), -2);
        due.is("REPORT -1", x.lets(-1, 0), -2);
        due.is("no DOING", x.lets(0, 2), -2);
        due.is("DOING -1", x.lets(0, -1), -2);
    }

    private static void looking() {
        TruceLine x = new TruceLine();
        x.mark(1, 0, 0, 0);
        for (int sort = 0; sort < 4; sort++) x.doing(sort, 3, 12);
        for (int sort = 0; sort < 2; sort++) x.doing(sort, 4, 12);
        x.doing(0, 3, 13);
        x.report(0, 12, 1, 1);
        x.report(0, 12, 1, 0);
        int[] seen = {1, 1, 0, 0, 0, 0, 0};
        for (int d = 0; d < 7; d++) {
            due.is("saw " + d, x.lets(0, d), seen[d]);
            due.is("saw nothing of " + d, x.lets(1, d), 1 - seen[d]);
        }
        due.is("none is left", x.left(), 0);
        x.takeBack(1);
        due.is("those that it saw", x.left(), 3);
        x.set(1, 1);
        due.is("in mist", x.left(), 0);
        x.set(1, 0);
        x.height(1, 1);
        due.is("behind a hill", x.left(), 0);
    }

    private static void takingBack() {
        TruceLine x = new TruceLine();
        x.mark(1, 0, 0, 0);
        due.is("none yet", x.takeBack(0), -2);
        x.report(0, 0, 0, 1);
        x.report(0, 0, 0, 1);
        x.report(0, 0, 0, 1);
        x.doing(0, 0, 1);
        due.is("none left", x.left(), 0);
        due.is("first", x.takeBack(1), 2);
        due.is("again", x.takeBack(1), -3);
        due.is("second", x.takeBack(2), 1);
        due.is("still none left", x.left(), 0);
        due.is("third", x.takeBack(0), 0);
        due.is("left", x.left(), 1);
        due.is("lets also then", x.lets(0, 0), 0);
        due.is("REPORT 3", x.takeBack(3), -2);
        due.is("REPORT -1", x.takeBack(-1), -2);
    }

    private static void parting() {
        TruceLine x = new TruceLine();
        x.mark(1, 0, 0, 0);
        x.mark(1, 0, 7, 0);
        due.is("of no DOINGS", x.worst(0, 0, 0), 0);
        x.doing(2, 0, 12);
        x.doing(2, 7, 12);
        x.doing(0, 1, 12);
        x.doing(0, 0, 13);
        due.is("worst by ear", x.worst(0, 12, 0), 2);
        due.is("worst by eye", x.worst(0, 12, 1), 3);
        due.is("worst by ear of 1", x.worst(1, 12, 0), 2);
        due.is("worst by eye of 1", x.worst(1, 12, 1), 4);
        due.is("worst in another HOUR", x.worst(0, 13, 0), 3);
        x.report(0, 12, 0, 1);
        due.is("left", x.left(), 5);
        due.is("worst of those", x.worst(0, 12, 0), 2);
        due.is("worst of those by eye", x.worst(0, 12, 1), 1);
        due.is("how 2", x.worst(0, 12, 2), -2);
        due.is("how -1", x.worst(0, 12, -1), -2);
        due.is("hour 1000", x.worst(0, 1000, 0), -2);
        due.is("hour -1", x.worst(0, -1, 0), -2);
        due.is("MARK 2", x.worst(2, 12, 0), -2);
        due.is("MARK -1", x.worst(-1, 12, 0), -2);
        x.gone(1, 1);
        due.is("one that is gone", x.worst(1, 12, 0), -2);
    }

    private static void leastLooks() {
        TruceLine x = new TruceLine();
        due.is("no MARK", x.look(0), -1);
        x.mark(0, 2, 63, 0);
        due.is("no DOINGS: the least MARK's ear", x.look(0), 0);
        x.mark(1, 0, 0, 0);
        x.mark(1, 0, 7, 0);
        x.doing(0, 0, 12);
        x.doing(0, 4, 12);
        due.is("by eye", x.look(12), 3);
        due.is("in another HOUR", x.look(13), 0);
        x.doing(2, 9, 12);
        x.doing(2, 8, 12);
        due.is("by the last MARK's ear", x.look(12), 4);
        x.gone(2, 1);
        due.is("without MARK 2", x.look(12), 3);
        x.gone(0, 1);
        due.is("in another HOUR without MARK 0", x.look(13), 2);
        x.gone(1, 1);
        due.is("without any", x.look(12), -1);
        manyLooks();
        due.is("look(-1)", x.look(-1), -2);
        due.is("look(1000)", x.look(1000), -2);
    }

    private static void manyLooks() {
        TruceLine x = new TruceLine();
        for (int m = 0; m < 16; m++) x.mark(0, 0, 0, 0);
        for (int d = 0; d < 12; d++) x.doing(0, 63, 12);
        due.is("all twelve unheard", x.worst(15, 12, 0), 12);
        due.is("all twelve, whoever looks", x.look(12), 0);
        for (int m = 0; m < 15; m++) x.gone(m, 1);
        due.is("the last one looks", x.look(12), 30);
    }

    private static void findings() {
        TruceLine x = new TruceLine();
        x.mark(1, 0, 0, 0);
        due.is("no DOING", x.finding(0, 0, 0), -2);
        x.doing(0, 0, 12);
        x.doing(0, 0, 13);
        x.report(0, 12, 0, 1);
        x.report(0, 13, 0, 1);
        due.is("DOING -1", x.finding(-1, 0, 0), -2);
        due.is("DOING 2", x.finding(2, 0, 0), -2);
        due.is("REPORT 2", x.finding(0, 4, 0), -2);
        due.is("REPORTS below 0", x.finding(0, -1, 0), -2);
        due.is("FINDING 0", x.finding(0, 0, 1), -2);
        due.is("FINDINGS below 0", x.finding(0, 0, -1), -2);
        due.is("leans on nothing", x.finding(0, 0, 0), 0);
        due.is("itself", x.finding(0, 0, 2), -2);
        due.is("one that is let", x.finding(0, 1, 1), 1);
        due.is("one that is not let", x.finding(0, 3, 0), 2);
        due.is("leans on that", x.finding(1, 2, 4), 3);
        due.is("leans on 1", x.finding(1, 2, 2), 4);
        due.is("leans on 4", x.finding(0, 0, 16), 5);
        due.is("standing", x.standing(), 1 + 2 + 16 + 32);
        x.takeBack(1);
        due.is("one fell", x.standing(), 1 + 2);
        x.gone(0, 1);
        due.is("both fell", x.standing(), 1);
        x.gone(0, 0);
        due.is("up again", x.standing(), 3);
        for (int f = 6; f < 10; f++) due.is("finding " + f, x.finding(0, 2, (1 << f) - 1), f);
        due.is("an 11th", x.finding(0, 0, 0), -4);
        due.is("a wrong 11th", x.finding(0, 4, 0), -2);
        due.is("count", x.count(4), 10);
        due.is("standing of all", x.standing(), 3);
    }
}
