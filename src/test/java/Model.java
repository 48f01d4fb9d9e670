import java.util.ArrayList;
import java.util.Comparator;
import java.util.HashMap;
import java.util.List;
import java.util.Map;
import java.util.TreeSet;

/** The document a second time, as plainly as can be: told numbers that are valid, it answers what is due. */
final class Model {
    static final class M {
        int kind, side, cell, size;
        boolean gone, held;
        final List<Integer> walk = new ArrayList<>();
    }

    record Doing(int sort, int cell, int hour) { }
    record Report(int mark, int hour, int how, int yes) { }
    record Finding(int doing, int reports, int findings) { }
    record Permit(int person, int from, int to, int since, int until) { }

    final int[][] heights = new int[8][8];
    final int[] line = {4, 4, 4, 4, 4, 4, 4, 4};
    int width = 1;
    int mist;
    final List<M> marks = new ArrayList<>();
    final List<ModelText> texts = new ArrayList<>();
    final int[] forced = new int[3];
    final List<Doing> doings = new ArrayList<>();
    final List<Report> reports = new ArrayList<>();
    final TreeSet<Integer> takenBack = new TreeSet<>();
    final List<Finding> findings = new ArrayList<>();
    final List<Permit> permits = new ArrayList<>();
    final List<Integer> list = new ArrayList<>();

    Model() throws ModelText.Fault {
        texts.add(new ModelText("breach strip and 0 < size or far < 0 ; shoot 0 < heard ;"));
    }

    int side(int cell) {
        return cell % 8 < line[cell / 8] ? 0 : 1;
    }

    /** CELLS of the row and SIDE between a CELL and THE LINE, counted. */
    int far(int cell) {
        int between = 0;
        for (int other = cell / 8 * 8; other < cell / 8 * 8 + 8; other++) {
            boolean nearer = side(cell) == 0 ? other > cell : other < cell;
            if (nearer && side(other) == side(cell)) between++;
        }
        return between;
    }

    static int apart(int a, int b) {
        int n = 0;
        while (Math.abs(a % 8 - b % 8) > n || Math.abs(a / 8 - b / 8) > n) n++;
        return n;
    }

    int at(int mark, int hour) {
        M m = marks.get(mark);
        return m.walk.isEmpty() ? m.cell : m.walk.get(hour % m.walk.size());
    }

    static boolean night(int hour) {
        return hour % 24 <= 5 || hour % 24 >= 20;
    }

    int sightOfKind(int kind, int cell, int hour) {
        int high = heights[cell / 8][cell % 8] >= 5 ? 1 : 0;
        int dark = night(hour) ? 1 : 0;
        int n = 0;
        if (kind == 1) n = 3 + high - dark;
        if (kind == 3) n = 3 + high - dark - 1;
        if (kind == 4) n = dark == 1 ? 3 + high : 3 + high - 1;
        if (kind == 5) n = 1;
        return n < mist ? 0 : n - mist;
    }

    int sight(int mark, int hour) {
        return sightOfKind(marks.get(mark).kind, at(mark, hour), hour);
    }

    static int ear(int kind) {
        return kind == 1 ? 4 : kind == 3 ? 5 : kind == 4 ? 2 * ear(3) : kind == 5 ? ear(2) + 2 : 0;
    }

    long seenFrom(int from, int sight) {
        long seen = 0;
        for (int to = 0; to < 64; to++) {
            int n = apart(from, to);
            boolean clear = n <= sight;
            for (int k = 1; k < n; k++) {
                int column = from % 8 + (int) ((double) ((to % 8 - from % 8) * k) / n);
                int row = from / 8 + (int) ((double) ((to / 8 - from / 8) * k) / n);
                int h = heights[row][column];
                if (h > heights[from / 8][from % 8] && h > heights[to / 8][to % 8]) clear = false;
            }
            if (clear) seen += 1L << to;
        }
        return seen;
    }

    long sees(int mark, int hour) {
        return marks.get(mark).gone ? 0 : seenFrom(at(mark, hour), sight(mark, hour));
    }

    long view(int side, int hour) {
        long seen = 0;
        for (int m = 0; m < marks.size(); m++) {
            if (marks.get(m).side == side) seen |= sees(m, hour);
        }
        return seen;
    }

    int says(int mark, int hour, int part, int heard) {
        M m = marks.get(mark);
        int cell = at(mark, hour);
        Map<String, Integer> names = new HashMap<>();
        names.put("size", m.size);
        names.put("kind", m.kind);
        names.put("far", m.side < 2 && side(cell) != m.side ? -1 - far(cell) : far(cell));
        names.put("strip", far(cell) < width ? 1 : 0);
        names.put("hour", hour);
        names.put("heard", part == 0 ? 0 : heard);
        if (part == 0) return texts.get(forced[2]).breach.of(names);
        return texts.get(forced[m.side]).shoot.of(names);
    }

    int breaches(int side, int hour) {
        int bits = 0;
        for (int m = 0; m < marks.size(); m++) {
            if (marks.get(m).gone || says(m, hour, 0, 0) == 0) continue;
            boolean known = side == -1;
            for (int o = 0; o < marks.size() && !known; o++) {
                known = marks.get(o).side == side && marks.get(m).side != side
                    && (sees(o, hour) & 1L << at(m, hour)) != 0;
            }
            if (known) bits |= 1 << m;
        }
        return bits;
    }

    int astray(int hour) {
        int bits = 0;
        for (int m = 0; m < marks.size(); m++) {
            M one = marks.get(m);
            if (!one.gone && one.side == 1 - side(at(m, hour))) bits |= 1 << m;
        }
        return bits;
    }

    int may(int person, int cell, int hour) {
        for (Permit p : permits) {
            if (p.person != person || cell / 8 < p.from || cell / 8 > p.to) continue;
            if (hour >= p.since && hour < p.until) return permits.indexOf(p);
        }
        return -1;
    }

    boolean noticed(int mark, int hour, int how, Doing d) {
        if (marks.get(mark).gone || d.hour != hour) return false;
        if (how == 1) return d.sort < 2 && (sees(mark, hour) >>> d.cell & 1) == 1;
        int loud = d.sort == 0 ? 4 : d.sort == 1 ? 3 : d.sort == 2 ? 1 : 99;
        return apart(at(mark, hour), d.cell) <= ear(marks.get(mark).kind) + loud;
    }

    int lets(int report, int doing) {
        Report r = reports.get(report);
        return (noticed(r.mark, r.hour, r.how, doings.get(doing)) ? 1 : 0) == r.yes ? 1 : 0;
    }

    int left() {
        int bits = 0;
        for (int d = 0; d < doings.size(); d++) {
            boolean all = true;
            for (int r = 0; r < reports.size(); r++) {
                if (!takenBack.contains(r) && lets(r, d) == 0) all = false;
            }
            if (all) bits |= 1 << d;
        }
        return bits;
    }

    int worst(int mark, int hour, int how) {
        int yes = 0;
        int no = 0;
        for (int d = 0; d < doings.size(); d++) {
            if ((left() >> d & 1) == 0) continue;
            if (noticed(mark, hour, how, doings.get(d))) yes++;
            else no++;
        }
        return Math.max(yes, no);
    }

    int look(int hour) {
        int best = -1;
        for (int l = 2 * marks.size() - 1; l >= 0; l--) {
            if (marks.get(l / 2).gone) continue;
            if (best < 0 || worst(l / 2, hour, l % 2) <= worst(best / 2, hour, best % 2)) best = l;
        }
        return best;
    }

    boolean stands(int finding) {
        Finding f = findings.get(finding);
        for (int r = 0; r < 24; r++) {
            if ((f.reports >> r & 1) == 1 && (takenBack.contains(r) || lets(r, f.doing) == 0)) return false;
        }
        for (int o = 0; o < 10; o++) {
            if ((f.findings >> o & 1) == 1 && !stands(o)) return false;
        }
        return true;
    }

    int standing() {
        int bits = 0;
        for (int f = 0; f < findings.size(); f++) bits |= stands(f) ? 1 << f : 0;
        return bits;
    }

    int shots(int mark, int hour, int n, int alsoHeld) {
        if (n == 0) return 1 << mark;
        int before = shots(mark, hour, n - 1, alsoHeld);
        int bits = 0;
        for (int m = 0; m < marks.size(); m++) {
            M one = marks.get(m);
            if (one.side == 2 || one.gone || one.held || (alsoHeld >> m & 1) == 1) continue;
            int heard = 0;
            for (int o = 0; o < marks.size(); o++) {
                boolean near = apart(at(m, hour + n), at(o, hour + n - 1)) <= ear(one.kind) + 4;
                if ((before >> o & 1) == 1 && marks.get(o).side + one.side == 1 && near) heard++;
            }
            if (heard > 0 && says(m, hour + n, 1, heard) != 0) bits |= 1 << m;
        }
        return bits;
    }

    int calm(int mark, int hour, int told, int n) {
        List<Integer> sets = new ArrayList<>();
        for (int set = 0; set < 1 << marks.size(); set++) {
            if ((set | told) == told) sets.add(set);
        }
        sets.sort(Comparator.<Integer>comparingInt(Integer::bitCount).thenComparingInt(s -> s));
        for (int set : sets) {
            boolean quiet = true;
            for (int k = n; k <= 24 && quiet; k++) quiet = shots(mark, hour, k, set) == 0;
            if (quiet) return set;
        }
        return -1;
    }

    int cover(int n, int hour, int what) {
        int best = -1;
        int most = -1;
        for (int set = (1 << list.size()) - 1; set >= 0; set--) {
            if (Integer.bitCount(set) != n) continue;
            long seen = 0;
            for (int i = 0; i < list.size(); i++) {
                if ((set >> i & 1) == 1) seen |= seenFrom(list.get(i), sightOfKind(1, list.get(i), hour));
            }
            if (Long.bitCount(seen) < most) continue;
            most = Long.bitCount(seen);
            best = set;
        }
        return best < 0 ? -1 : what == 0 ? best : most;
    }

    int strength(int side, int drawn) {
        int sum = 0;
        for (int m = 0; m < marks.size(); m++) {
            M one = marks.get(m);
            boolean gun = one.kind == 2 || one.kind == 5;
            if (gun && one.side == side && !one.gone && (drawn >> m & 1) == 0) sum += one.size;
        }
        return sum;
    }

    boolean canDraw(int guns) {
        for (int m = 0; m < 32; m++) {
            if ((guns >> m & 1) == 0) continue;
            if (m >= marks.size() || marks.get(m).gone || marks.get(m).side == 2) return false;
            if (marks.get(m).kind != 2 && marks.get(m).kind != 5) return false;
        }
        return Integer.bitCount(guns) <= 7;
    }

    /** THE ORDER: every order is tried, the least first; null: there is none. */
    List<Integer> order(int guns, int drawn, int apart) {
        if (Math.abs(strength(0, drawn) - strength(1, drawn)) > apart) return null;
        if (guns == drawn) return new ArrayList<>();
        for (int m = 0; m < marks.size(); m++) {
            if ((guns >> m & 1) == 0 || (drawn >> m & 1) == 1) continue;
            List<Integer> rest = order(guns, drawn | 1 << m, apart);
            if (rest == null) continue;
            rest.add(0, m);
            return rest;
        }
        return null;
    }

    int drawBack(int guns, int apart, int i) {
        List<Integer> order = order(guns, 0, apart);
        if (order == null || i < -1 || i >= order.size()) return -1;
        return i == -1 ? order.size() : order.get(i);
    }
}
