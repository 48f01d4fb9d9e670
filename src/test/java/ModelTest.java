import java.util.Random;

/** Runs of calls by chance, each answer beside that of the plain model. */
public final class ModelTest {
    private static final Due due = new Due();
    private static final int RUNS = 400, CALLS = 500;

    private final Random random;
    private final TruceLine x = new TruceLine();
    private final Model y = new Model();
    private final int seed;
    private int call;

    private ModelTest(int seed) throws ModelText.Fault {
        this.seed = seed;
        random = new Random(seed);
    }

    public static void main(String[] args) throws ModelText.Fault {
        for (int seed = 0; seed < RUNS && !due.isWrong(); seed++) new ModelTest(seed).run();
        for (int seed = 0; seed < 4000; seed++) new ModelTest(seed).oneText();
        due.end();
    }

    private int below(int n) {
        return random.nextInt(n);
    }

    private int hour() {
        return below(5) == 0 ? 990 + below(10) : below(30);
    }

    /** Mostly CELLS near one another and THE LINE, so that much is seen and heard. */
    private int cell() {
        return below(4) == 0 ? below(64) : 8 * (2 + below(3)) + 1 + below(6);
    }

    private void due(String what, long got, long want) {
        due.is("run " + seed + ", call " + call + ": " + what, got, want);
    }

    private void run() {
        int marks = 2 + below(14);
        for (call = 0; call < CALLS && !due.isWrong(); call++) {
            if (call < marks) addMark();
            else if (below(4) == 0) change();
            else ask();
        }
    }

    private void addMark() {
        Model.M m = new Model.M();
        m.kind = below(6);
        m.side = below(7) == 0 ? 2 : below(2);
        m.cell = cell();
        m.size = below(5) == 0 ? 99 : below(4);
        due("mark", x.mark(m.kind, m.side, m.cell, m.size), y.marks.size());
        y.marks.add(m);
    }

    private int mark() {
        return below(y.marks.size());
    }

    private void change() {
        Model.M m = y.marks.get(mark());
        int number = y.marks.indexOf(m);
        switch (below(12)) {
            case 0: changeHeight(); break;
            case 1: changeLine(); break;
            case 2: changeSetting(); break;
            case 3: changeWalk(number, m); break;
            case 4: {
                boolean is = below(4) == 0;
                due("gone", x.gone(number, is ? 1 : 0), m.gone ? 1 : 0);
                m.gone = is;
                break;
            }
            case 5: {
                boolean is = below(4) == 0;
                due("hold", x.hold(number, is ? 1 : 0), m.held ? 1 : 0);
                m.held = is;
                break;
            }
            case 6: addText(); break;
            case 7: addDoing(); break;
            case 8: addReport(number); break;
            case 9: addFinding(); break;
            case 10: addPermit(); break;
            default: addCell(); break;
        }
    }

    private void changeHeight() {
        int cell = cell();
        int n = below(10);
        due("height", x.height(cell, n), y.heights[cell / 8][cell % 8]);
        y.heights[cell / 8][cell % 8] = n;
    }

    private void changeLine() {
        int row = below(8);
        int at = below(3) == 0 ? below(9) : 3 + below(3);
        due("line", x.line(row, at), y.line[row]);
        y.line[row] = at;
    }

    private void changeSetting() {
        if (below(2) == 0) {
            int n = below(5);
            due("width", x.set(0, n), y.width);
            y.width = n;
        } else {
            int n = below(2) == 0 ? 0 : below(6);
            due("mist", x.set(1, n), y.mist);
            y.mist = n;
        }
    }

    private void changeWalk(int number, Model.M m) {
        int cell = cell();
        boolean can = m.kind == 3 || m.kind == 4;
        int want = !can ? -13 : m.walk.size() == 6 ? -4 : m.walk.size() + 1;
        due("walk", x.walk(number, cell), want);
        if (want > 0) m.walk.add(cell);
    }

    private void addText() {
        if (y.texts.size() < 6) readText();
        int which = below(3);
        int text = below(y.texts.size() + 1);
        int want = text < y.texts.size() ? y.forced[which] : -2;
        due("force", x.force(which, text), want);
        if (want >= 0) y.forced[which] = text;
    }

    private void readText() {
        String tape = spoilt("breach " + either(3) + ";shoot " + either(3) + " ;");
        if (tape.length() > 160) return;
        int want;
        try {
            ModelText read = new ModelText(tape);
            want = y.texts.size();
            y.texts.add(read);
        } catch (ModelText.Fault f) {
            want = -100 - f.place;
        }
        due("text of " + tape, Tape.text(x, tape), want);
    }

    /** One TEXT, and what it says of one MARK. */
    private void oneText() {
        addMark();
        for (int i = 0; i < 5; i++) readText();
        for (int text = 0; text < y.texts.size(); text++) {
            y.forced[2] = text;
            y.forced[0] = text;
            x.force(2, text);
            x.force(0, text);
            for (int i = 0; i < 4; i++) askLaw(0, hour());
        }
    }

    private String either(int depth) {
        String e = both(depth);
        while (below(4) == 0) e += " or " + both(depth);
        return e;
    }

    private String both(int depth) {
        String e = negation(depth);
        while (below(5) == 0) e += " and " + negation(depth);
        return e;
    }

    private String negation(int depth) {
        if (below(5) == 0) return "not " + negation(depth);
        int sign = below(4);
        return sum(depth) + (sign == 0 ? "<" + sum(depth) : sign == 1 ? " = " + sum(depth) : "");
    }

    private String sum(int depth) {
        String e = term(depth);
        while (below(5) == 0) e += (below(2) == 0 ? " +" : "-") + term(depth);
        return e;
    }

    private String term(int depth) {
        String e = one(depth);
        while (below(6) == 0) e += "*" + one(depth);
        return e;
    }

    private String one(int depth) {
        String[] names = {"size", "far", "strip", "hour", "kind", "heard"};
        if (below(6) == 0) return "-" + one(depth);
        if (depth > 0 && below(5) == 0) return "(" + either(depth - 1) + ")";
        if (below(3) > 0) return names[below(6)];
        return below(8) == 0 ? "9999" : below(20) == 0 ? "12345" : "" + below(4);
    }

    private String spoilt(String tape) {
        StringBuilder s = new StringBuilder(tape);
        String signs = "abz019 ();+-*<=\n@A\u00e9\t,\u0000ornt";
        for (int i = below(3); i > 0 && below(2) == 0; i--) {
            int at = below(s.length());
            if (below(2) == 0) s.deleteCharAt(at);
            else s.insert(at, signs.charAt(below(signs.length())));
        }
        return s.toString();
    }

    private void addDoing() {
        int sort = below(4);
        int cell = cell();
        int hour = 10 + below(2);
        boolean full = y.doings.size() == 12;
        due("doing", x.doing(sort, cell, hour), full ? -4 : y.doings.size());
        if (!full) y.doings.add(new Model.Doing(sort, cell, hour));
    }

    private void addReport(int mark) {
        int hour = 10 + below(2);
        int how = below(2);
        int yes = below(2);
        boolean full = y.reports.size() == 24;
        due("report", x.report(mark, hour, how, yes), full ? -4 : y.reports.size());
        if (!full) y.reports.add(new Model.Report(mark, hour, how, yes));
        if (below(2) == 0) takeBack(below(y.reports.size()));
    }

    private void takeBack(int report) {
        boolean was = !y.takenBack.add(report);
        due("takeBack", x.takeBack(report), was ? -3 : y.reports.size() - y.takenBack.size());
    }

    private void addFinding() {
        if (y.doings.isEmpty()) return;
        int doing = below(y.doings.size());
        int reports = below(2) == 0 ? 0 : 1 << below(24);
        int on = below(2) == 0 ? 0 : 1 << below(10);
        boolean bad = reports >= 1 << y.reports.size() || on >= 1 << y.findings.size();
        boolean full = y.findings.size() == 10;
        due("finding", x.finding(doing, reports, on), bad ? -2 : full ? -4 : y.findings.size());
        if (!bad && !full) y.findings.add(new Model.Finding(doing, reports, on));
    }

    private void addPermit() {
        int from = below(8);
        int to = from + below(8 - from);
        int since = below(30);
        int until = since + 1 + below(10);
        int person = below(4);
        boolean full = y.permits.size() == 12;
        due("permit", x.permit(person, from, to, since, until), full ? -4 : y.permits.size());
        if (!full) y.permits.add(new Model.Permit(person, from, to, since, until));
    }

    private void addCell() {
        int cell = cell();
        boolean full = y.list.size() == 10;
        due("list", x.list(cell), full ? -4 : y.list.size() + 1);
        if (!full) y.list.add(cell);
    }

    private void ask() {
        int mark = mark();
        int hour = hour();
        switch (below(7)) {
            case 0: askZone(); break;
            case 1: askMark(mark, hour); break;
            case 2: askLaw(mark, hour); break;
            case 3: askIncidents(mark, 10 + below(2)); break;
            case 4: askShots(mark, hour); break;
            case 5: askCover(hour); break;
            default: askGuns(); break;
        }
    }

    private void askZone() {
        int cell = below(64);
        due("height of " + cell, x.cellTold(cell, 0), y.heights[cell / 8][cell % 8]);
        due("side of " + cell, x.cellTold(cell, 1), y.side(cell));
        due("far of " + cell, x.cellTold(cell, 2), y.far(cell));
        due("strip of " + cell, x.cellTold(cell, 3), y.far(cell) < y.width ? 1 : 0);
    }

    private void askMark(int mark, int hour) {
        Model.M m = y.marks.get(mark);
        int[] told = {m.kind, m.side, m.size, m.gone ? 1 : 0, Model.ear(m.kind), m.held ? 1 : 0};
        for (int what = 0; what < 6; what++) due("markTold " + what, x.markTold(mark, what), told[what]);
        due("at", x.at(mark, hour), y.at(mark, hour));
        due("sight", x.sight(mark, hour), y.sight(mark, hour));
        due("sees", x.sees(mark, hour), y.sees(mark, hour));
        int side = below(3);
        due("view", x.view(side, hour), y.view(side, hour));
    }

    private void askLaw(int mark, int hour) {
        int part = below(2);
        int heard = below(100);
        due("says " + part, x.says(mark, hour, part, heard), y.says(mark, hour, part, heard));
        int side = below(4) - 1;
        due("breaches", x.breaches(side, hour), y.breaches(side, hour));
        due("astray", x.astray(hour), y.astray(hour));
        int person = below(4);
        int cell = below(64);
        due("may", x.may(person, cell, hour), y.may(person, cell, hour));
    }

    private void askIncidents(int mark, int hour) {
        due("left", x.left(), y.left());
        due("standing", x.standing(), y.standing());
        due("look", x.look(hour), y.look(hour));
        int how = below(2);
        due("worst", x.worst(mark, hour, how), y.marks.get(mark).gone ? -2 : y.worst(mark, hour, how));
        if (y.doings.isEmpty() || y.reports.isEmpty()) return;
        int doing = below(y.doings.size());
        int report = below(y.reports.size());
        due("lets", x.lets(report, doing), y.lets(report, doing));
    }

    private void askShots(int mark, int hour) {
        boolean watcher = y.marks.get(mark).side == 2;
        int n = below(3) > 0 ? below(5) : below(25);
        due("shots " + n, x.shots(mark, hour, n), watcher ? -2 : y.shots(mark, hour, n, 0));
        if (call % 4 > 0) return;
        int told = below(1 << y.marks.size());
        while (Integer.bitCount(told) > 6) told &= told - 1;
        n = 1 + (below(3) > 0 ? below(5) : below(24));
        due("calm " + told + " " + n, x.calm(mark, hour, told, n), watcher ? -2 : y.calm(mark, hour, told, n));
    }

    private void askCover(int hour) {
        int n = below(11);
        int what = below(2);
        due("cover " + n, x.cover(n, hour, what), y.cover(n, hour, what));
    }

    private void askGuns() {
        int side = below(3);
        due("strength", x.strength(side), y.strength(side, 0));
        int guns = 0;
        for (int m = 0; m < y.marks.size(); m++) {
            Model.M one = y.marks.get(m);
            boolean can = (one.kind == 2 || one.kind == 5) && one.side < 2 && !one.gone;
            if (below(3) > 0 && (can || below(30) == 0)) guns |= 1 << m;
        }
        int apart = below(4) == 0 ? below(220) : below(10);
        int i = below(9) - 2;
        int want = y.canDraw(guns) ? y.drawBack(guns, apart, i) : -2;
        due("drawBack " + guns + " " + apart + " " + i, x.drawBack(guns, apart, i), want);
    }
}
