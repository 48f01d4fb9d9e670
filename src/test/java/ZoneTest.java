/** Promises 1 to 5: a new object, height, line, set, cellTold. */
public final class ZoneTest {
    private static final Due due = new Due();

    public static void main(String[] args) {
        newObject();
        heights();
        lines();
        settings();
        cells();
        due.end();
    }

    private static void newObject() {
        TruceLine x = new TruceLine();
        for (int cell = 0; cell < 64; cell++) {
            int column = cell % 8;
            due.is("new: height " + cell, x.cellTold(cell, 0), 0);
            due.is("new: side " + cell, x.cellTold(cell, 1), column < 4 ? 0 : 1);
            due.is("new: far " + cell, x.cellTold(cell, 2), column < 4 ? 3 - column : column - 4);
            due.is("new: strip " + cell, x.cellTold(cell, 3), column == 3 || column == 4 ? 1 : 0);
        }
        for (int what = 0; what < 12; what++) due.is("new: count " + what, x.count(what), what == 7 ? 1 : 0);
        due.is("new: width", x.set(0, 1), 1);
        due.is("new: mist", x.set(1, 0), 0);
        due.is("new: left", x.left(), 0);
        due.is("new: standing", x.standing(), 0);
        due.is("new: look", x.look(0), -1);
        due.is("new: view", x.view(0, 0), 0);
        due.is("new: breaches", x.breaches(-1, 0), 0);
        due.is("new: astray", x.astray(0), 0);
        due.is("new: late", x.late(999), 0);
        due.is("new: alone", x.alone(-1), 0);
        due.is("new: strength", x.strength(0), 0);
    }

    private static void heights() {
        TruceLine x = new TruceLine();
        due.is("height(0, 9)", x.height(0, 9), 0);
        due.is("height(0, 0)", x.height(0, 0), 9);
        due.is("height(63, 4)", x.height(63, 4), 0);
        due.is("height(63, 10)", x.height(63, 10), -2);
        due.is("height(63, -1)", x.height(63, -1), -2);
        due.is("height(64, 1)", x.height(64, 1), -2);
        due.is("height(-1, 1)", x.height(-1, 1), -2);
        due.is("height(63, 5)", x.height(63, 5), 4);
        due.is("height told", x.cellTold(63, 0), 5);
        due.is("height beside", x.cellTold(62, 0), 0);
    }

    private static void lines() {
        TruceLine x = new TruceLine();
        due.is("line(0, 0)", x.line(0, 0), 4);
        due.is("line(7, 8)", x.line(7, 8), 4);
        due.is("line(7, 9)", x.line(7, 9), -2);
        due.is("line(7, -1)", x.line(7, -1), -2);
        due.is("line(8, 4)", x.line(8, 4), -2);
        due.is("line(-1, 4)", x.line(-1, 4), -2);
        due.is("side left of all", x.cellTold(0, 1), 1);
        due.is("far left of all", x.cellTold(7, 2), 7);
        due.is("side right of all", x.cellTold(63, 1), 0);
        due.is("far right of all", x.cellTold(56, 2), 7);
        due.is("other row", x.cellTold(8, 1), 0);
        due.is("line(7, 3)", x.line(7, 3), 8);
        due.is("line(0, 4)", x.line(0, 4), 0);
    }

    private static void settings() {
        TruceLine x = new TruceLine();
        due.is("set(0, 4)", x.set(0, 4), 1);
        due.is("set(0, 5)", x.set(0, 5), -2);
        due.is("set(0, -1)", x.set(0, -1), -2);
        due.is("set(0, 0)", x.set(0, 0), 4);
        due.is("set(1, 5)", x.set(1, 5), 0);
        due.is("set(1, 6)", x.set(1, 6), -2);
        due.is("set(1, -1)", x.set(1, -1), -2);
        due.is("set(1, 0)", x.set(1, 0), 5);
        due.is("set(2, 1)", x.set(2, 1), -2);
        due.is("set(-1, 1)", x.set(-1, 1), -2);
        due.is("no width", x.set(0, 0), 0);
    }

    private static void cells() {
        TruceLine x = new TruceLine();
        x.set(0, 0);
        due.is("no strip", x.cellTold(3, 3) + x.cellTold(4, 3), 0);
        x.set(0, 3);
        due.is("strip 3: 0", x.cellTold(0, 3), 0);
        due.is("strip 3: 1", x.cellTold(1, 3), 1);
        due.is("strip 3: 6", x.cellTold(6, 3), 1);
        due.is("strip 3: 7", x.cellTold(7, 3), 0);
        due.is("cellTold(-1, 0)", x.cellTold(-1, 0), -2);
        due.is("cellTold(64, 1)", x.cellTold(64, 1), -2);
        due.is("cellTold(0, -1)", x.cellTold(0, -1), -2);
        due.is("cellTold(0, 4)", x.cellTold(0, 4), -2);
    }
}
