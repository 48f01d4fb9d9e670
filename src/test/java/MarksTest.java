/** Promises 6 to 13 and 49: mark, walk, gone, markTold, at, sight, sees, view, taken. */
public final class MarksTest {
    private static final Due due = new Due();

    public static void main(String[] args) {
        making();
        walking();
        going();
        telling();
        sights();
        seeing();
        hiding();
        views();
        taking();
        due.end();
    }

    private static void making() {
        TruceLine x = new TruceLine();
        due.is("kind -1", x.mark(-1, 0, 0, 0), -2);
        due.is("kind 6", x.mark(6, 0, 0, 0), -2);
        due.is("side -1", x.mark(0, -1, 0, 0), -2);
        due.is("side 3", x.mark(0, 3, 0, 0), -2);
        due.is("cell -1", x.mark(0, 0, -1, 0), -2);
        due.is("cell 64", x.mark(0, 0, 64, 0), -2);
        due.is("size -1", x.mark(0, 0, 0, -1), -2);
        due.is("size 100", x.mark(0, 0, 0, 100), -2);
        due.is("none made", x.count(0), 0);
        for (int m = 0; m < 16; m++) due.is("mark " + m, x.mark(m % 6, m % 3, m == 15 ? 63 : m, m == 15 ? 99 : m), m);
        due.is("a 17th", x.mark(0, 0, 0, 0), -4);
        due.is("a wrong 17th", x.mark(6, 0, 0, 0), -2);
        due.is("count", x.count(0), 16);
        due.is("last size", x.markTold(15, 2), 99);
        due.is("last cell", x.at(15, 0), 63);
    }

    private static void walking() {
        TruceLine x = new TruceLine();
        x.mark(3, 0, 10, 0);
        x.mark(1, 0, 11, 0);
        x.mark(4, 2, 12, 0);
        due.is("stays", x.at(0, 999), 10);
        due.is("a POST walks", x.walk(1, 5), -13);
        due.is("a POST walks off", x.walk(1, 64), -2);
        due.is("no MARK walks", x.walk(3, 5), -2);
        due.is("no MARK walks", x.walk(-1, 5), -2);
        due.is("walks off", x.walk(0, -1), -2);
        for (int i = 0; i < 6; i++) due.is("step " + i, x.walk(0, 20 + i), i + 1);
        due.is("a 7th step", x.walk(0, 30), -4);
        due.is("a wrong 7th step", x.walk(0, 64), -2);
        due.is("at hour 0", x.at(0, 0), 20);
        due.is("at hour 5", x.at(0, 5), 25);
        due.is("at hour 6", x.at(0, 6), 20);
        due.is("at hour 999", x.at(0, 999), 23);
        due.is("STEALTH walks", x.walk(2, 63), 1);
        due.is("STEALTH is there", x.at(2, 77), 63);
        due.is("a POST stays", x.at(1, 7), 11);
        due.is("at -1", x.at(0, -1), -2);
        due.is("at 1000", x.at(0, 1000), -2);
        due.is("at, no MARK", x.at(3, 0), -2);
    }

    private static void going() {
        TruceLine x = new TruceLine();
        x.mark(1, 0, 10, 5);
        due.is("gone(0, 1)", x.gone(0, 1), 0);
        due.is("gone(0, 1)", x.gone(0, 1), 1);
        due.is("told gone", x.markTold(0, 3), 1);
        due.is("gone(0, 2)", x.gone(0, 2), -2);
        due.is("gone(0, -1)", x.gone(0, -1), -2);
        due.is("gone(1, 0)", x.gone(1, 0), -2);
        due.is("gone(-1, 0)", x.gone(-1, 0), -2);
        due.is("sees nothing", x.sees(0, 12), 0);
        due.is("is still there", x.at(0, 12), 10);
        due.is("has its sight", x.sight(0, 12), 3);
        due.is("gone(0, 0)", x.gone(0, 0), 1);
        due.is("told here", x.markTold(0, 3), 0);
        due.is("sees itself", x.sees(0, 12) >> 10 & 1, 1);
    }

    private static void telling() {
        TruceLine x = new TruceLine();
        int[] ears = {0, 4, 0, 5, 10, 2};
        for (int kind = 0; kind < 6; kind++) {
            x.mark(kind, kind % 3, kind, 10 + kind);
            due.is("kind", x.markTold(kind, 0), kind);
            due.is("side", x.markTold(kind, 1), kind % 3);
            due.is("size", x.markTold(kind, 2), 10 + kind);
            due.is("ear of " + kind, x.markTold(kind, 4), ears[kind]);
            due.is("held", x.markTold(kind, 5), 0);
        }
        x.hold(3, 1);
        due.is("held now", x.markTold(3, 5), 1);
        due.is("what -1", x.markTold(0, -1), -2);
        due.is("what 6", x.markTold(0, 6), -2);
        due.is("MARK 6", x.markTold(6, 0), -2);
        due.is("MARK -1", x.markTold(-1, 0), -2);
    }

    private static void sights() {
        TruceLine x = new TruceLine();
        int[][] bySort = {{0, 0, 0, 0}, {3, 2, 4, 3}, {0, 0, 0, 0}, {2, 1, 3, 2}, {2, 3, 3, 4}, {1, 1, 1, 1}};
        x.height(0, 4);
        x.height(1, 5);
        for (int kind = 0; kind < 6; kind++) {
            x.mark(kind, 0, 0, 0);
            x.mark(kind, 0, 1, 0);
        }
        int[] days = {6, 19, 30, 990};
        int[] nights = {0, 5, 20, 23, 24, 999 - 999 % 24};
        for (int mist = 0; mist < 6; mist++) {
            x.set(1, mist);
            for (int kind = 0; kind < 6; kind++) {
                int[] sort = bySort[kind];
                int day = days[mist % days.length];
                int night = nights[mist];
                due.is("low day " + kind + " mist " + mist, x.sight(2 * kind, day), Math.max(0, sort[0] - mist));
                due.is("low night " + kind, x.sight(2 * kind, night), Math.max(0, sort[1] - mist));
                due.is("high day " + kind, x.sight(2 * kind + 1, day), Math.max(0, sort[2] - mist));
                due.is("high night " + kind, x.sight(2 * kind + 1, night), Math.max(0, sort[3] - mist));
            }
        }
        x.set(1, 0);
        x.walk(6, 0);
        x.walk(6, 1);
        due.is("a PATROL climbs", x.sight(6, 13), 3);
        due.is("a PATROL is down", x.sight(6, 12), 2);
        due.is("sight at -1", x.sight(0, -1), -2);
        due.is("sight at 1000", x.sight(0, 1000), -2);
        due.is("sight of none", x.sight(12, 0), -2);
    }

    private static void seeing() {
        TruceLine x = new TruceLine();
        x.mark(0, 0, 9, 0);
        x.mark(5, 0, 9, 0);
        x.mark(1, 0, 63, 0);
        x.mark(3, 1, 0, 0);
        due.is("a MARK sees its own CELL", x.sees(0, 12), 1L << 9);
        due.is("a BATTERY sees those beside", x.sees(1, 12), 0x070707L);
        due.is("a POST in the corner", x.sees(2, 12), 0xF0F0F0F0L << 32);
        due.is("a POST by night", x.sees(2, 0), 0xE0E0E0L << 40);
        due.is("a PATROL in the corner", x.sees(3, 12), 0x070707L);
        x.walk(3, 63);
        due.is("a PATROL elsewhere", x.sees(3, 12), 0xE0E0E0L << 40);
        due.is("sees at -1", x.sees(0, -1), TruceLine.NO);
        due.is("sees at 1000", x.sees(0, 1000), TruceLine.NO);
        due.is("none sees", x.sees(4, 0), TruceLine.NO);
        due.is("none sees", x.sees(-1, 0), TruceLine.NO);
    }

    /** The POST in column 3 of row 3 looks past CELLS that are higher or not. */
    private static void hiding() {
        TruceLine x = new TruceLine();
        x.mark(1, 0, 27, 0);
        due.is("all flat", x.sees(0, 12) >> 54 & 1, 1);
        x.height(36, 2);
        due.is("a hill on the way", x.sees(0, 12) >> 45 & 1, 0);
        due.is("the hill itself", x.sees(0, 12) >> 36 & 1, 1);
        x.height(27, 2);
        due.is("from as high", x.sees(0, 12) >> 45 & 1, 1);
        x.height(27, 0);
        x.height(45, 2);
        due.is("onto as high", x.sees(0, 12) >> 45 & 1, 1);
        due.is("behind both", x.sees(0, 12) >> 54 & 1, 0);
        x.height(36, 0);
        x.height(45, 0);
        // 3 columns right, 1 row up: both CELLS between are in the POST's own row, cut towards 0.
        x.height(20, 9);
        x.height(21, 9);
        due.is("up, rows cut towards 0", x.sees(0, 12) >> 22 & 1, 1);
        x.height(29, 1);
        due.is("up, hidden in its row", x.sees(0, 12) >> 22 & 1, 0);
        due.is("down, hidden in its row", x.sees(0, 12) >> 38 & 1, 0);
        due.is("to the left", x.sees(0, 12) >> 32 & 1, 1);
        x.height(26, 1);
        due.is("hidden to the left", x.sees(0, 12) >> 32 & 1, 0);
    }

    private static void views() {
        TruceLine x = new TruceLine();
        x.mark(5, 0, 9, 0);
        x.mark(0, 0, 63, 0);
        x.mark(0, 2, 30, 0);
        due.is("view of 0", x.view(0, 12), 0x070707L | 1L << 63);
        due.is("view of 1", x.view(1, 12), 0);
        due.is("view of 2", x.view(2, 12), 1L << 30);
        x.gone(0, 1);
        due.is("view without one", x.view(0, 12), 1L << 63);
        due.is("view of 3", x.view(3, 12), TruceLine.NO);
        due.is("view of -1", x.view(-1, 12), TruceLine.NO);
        due.is("view at 1000", x.view(0, 1000), TruceLine.NO);
        due.is("view at -1", x.view(0, -1), TruceLine.NO);
    }

    private static void taking() {
        TruceLine x = new TruceLine();
        String[] under = {"100000", "110000", "101000", "110100", "110110", "101001"};
        for (int kind = 0; kind < 6; kind++) {
            x.mark(kind, 0, 0, 40 + kind);
            for (int k = 0; k < 6; k++) {
                int want = under[kind].charAt(k) == '1' ? 40 + kind : -13;
                due.is("taken(" + kind + ", " + k + ")", x.taken(kind, k), want);
            }
        }
        x.gone(1, 1);
        due.is("one that is gone", x.taken(1, 1), 41);
        due.is("k -1", x.taken(0, -1), -2);
        due.is("k 6", x.taken(0, 6), -2);
        due.is("no MARK", x.taken(6, 0), -11);
        due.is("no MARK", x.taken(-1, 0), -11);
        due.is("no MARK, no k", x.taken(16, 6), -2);
    }
}
