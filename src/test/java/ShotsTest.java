/** Promises 31 to 33: hold, shots, calm. */
public final class ShotsTest {
    private static final Due due = new Due();

    public static void main(String[] args) {
        holding();
        chains();
        orders();
        walkers();
        lastHours();
        refusedShots();
        calming();
        longCalm();
        refusedCalm();
        sixteen();
        due.end();
    }

    private static void holding() {
        TruceLine x = new TruceLine();
        x.mark(1, 0, 3, 0);
        due.is("hold(0, 1)", x.hold(0, 1), 0);
        due.is("hold(0, 1)", x.hold(0, 1), 1);
        due.is("hold(0, 2)", x.hold(0, 2), -2);
        due.is("hold(0, -1)", x.hold(0, -1), -2);
        due.is("hold(1, 1)", x.hold(1, 1), -2);
        due.is("hold(-1, 1)", x.hold(-1, 1), -2);
        due.is("held", x.markTold(0, 5), 1);
        due.is("hold(0, 0)", x.hold(0, 0), 1);
        due.is("not held", x.markTold(0, 5), 0);
    }

    private static void chains() {
        TruceLine x = new TruceLine();
        x.mark(0, 0, 0, 0);
        x.mark(0, 1, 4, 0);
        x.mark(0, 1, 5, 0);
        x.mark(0, 0, 1, 0);
        x.mark(1, 2, 0, 0);
        due.is("0 behind", x.shots(0, 10, 0), 1);
        due.is("1 behind: as far as 4", x.shots(0, 10, 1), 2);
        due.is("2 behind", x.shots(0, 10, 2), 1 + 8);
        due.is("3 behind", x.shots(0, 10, 3), 2 + 4);
        due.is("24 behind", x.shots(0, 10, 24), 1 + 8);
        x.gone(1, 1);
        due.is("one is gone", x.shots(0, 10, 1), 0);
        due.is("the SHOT of one that is gone", x.shots(1, 10, 1), 9);
        x.gone(1, 0);
        x.hold(1, 1);
        due.is("one is held", x.shots(0, 10, 1), 0);
        due.is("none shoots any more", x.shots(0, 10, 9), 0);
        due.is("the SHOT of one that is held", x.shots(1, 10, 1), 9);
        due.is("itself, held", x.shots(1, 10, 0), 2);
        x.hold(1, 0);
        x.hold(0, 1);
        due.is("it is held itself", x.shots(0, 10, 2), 8);
    }

    private static void orders() {
        TruceLine x = new TruceLine();
        x.mark(1, 0, 0, 1);
        x.mark(1, 0, 1, 2);
        x.mark(1, 1, 3, 3);
        x.mark(1, 2, 3, 4);
        due.is("two that two hear", Tape.text(x, "breach 0 ; shoot 1 < heard ;"), 1);
        due.is("at all times", Tape.text(x, "breach 0 ; shoot 1 ;"), 2);
        due.is("by its HOUR", Tape.text(x, "breach 0 ; shoot hour = 11 and size = 2;"), 3);
        x.force(1, 1);
        due.is("one is too few", x.shots(0, 10, 1), 0);
        due.is("one calls both", x.shots(2, 10, 1), 3);
        due.is("both call one", x.shots(2, 10, 2), 4);
        x.force(1, 2);
        x.gone(2, 1);
        due.is("none hears", x.shots(0, 10, 1), 0);
        x.gone(2, 0);
        x.force(0, 3);
        due.is("in HOUR 11", x.shots(2, 10, 1), 2);
        due.is("in HOUR 12", x.shots(2, 11, 1), 0);
        due.is("the TRUCE is no order", x.force(2, 1), 0);
        due.is("as before", x.shots(2, 10, 1), 2);
    }

    private static void walkers() {
        TruceLine x = new TruceLine();
        x.mark(3, 0, 0, 0);
        x.walk(0, 0);
        x.walk(0, 63);
        x.mark(0, 1, 4, 0);
        x.mark(0, 1, 59, 0);
        due.is("from where it shot", x.shots(0, 10, 1), 2);
        due.is("from elsewhere", x.shots(0, 11, 1), 4);
        due.is("where it hears", x.shots(1, 10, 1), 1);
        due.is("where it hears: 8 and no more", x.shots(1, 11, 1), 1);
        x.walk(0, 32);
        due.is("at its third place", x.shots(0, 11, 1), 2 + 4);
    }

    private static void lastHours() {
        TruceLine x = new TruceLine();
        x.mark(1, 0, 3, 0);
        x.mark(1, 1, 4, 0);
        Tape.text(x, "breach 0 ; shoot 998 < hour ;");
        x.force(1, 1);
        due.is("in the last HOUR", x.shots(0, 998, 1), 2);
        due.is("in none", x.shots(0, 997, 1), 0);
        due.is("behind the last HOUR", x.shots(0, 999, 1), 2);
        due.is("far behind it", x.shots(0, 999, 24), 1);
    }

    private static void refusedShots() {
        TruceLine x = new TruceLine();
        x.mark(1, 0, 3, 0);
        x.mark(1, 2, 4, 0);
        due.is("a watcher", x.shots(1, 0, 0), -2);
        due.is("no MARK", x.shots(2, 0, 0), -2);
        due.is("MARK -1", x.shots(-1, 0, 0), -2);
        due.is("hour -1", x.shots(0, -1, 0), -2);
        due.is("hour 1000", x.shots(0, 1000, 0), -2);
        due.is("n -1", x.shots(0, 0, -1), -2);
        due.is("n 25", x.shots(0, 0, 25), -2);
        due.is("n 24", x.shots(0, 0, 24), 0);
    }

    private static void calming() {
        TruceLine x = new TruceLine();
        x.mark(0, 0, 0, 0);
        x.mark(0, 1, 1, 0);
        x.mark(0, 1, 2, 0);
        x.mark(0, 0, 3, 0);
        due.is("none from 1 on", x.calm(0, 5, 15, 1), 6);
        due.is("none from 2 on", x.calm(0, 5, 15, 2), 6);
        due.is("by those that answer", x.calm(0, 5, 9, 2), 9);
        due.is("by one side, from 1 on", x.calm(0, 5, 9, 1), -1);
        due.is("by one", x.calm(0, 5, 1, 24), -1);
        due.is("none told", x.calm(0, 5, 0, 24), -1);
        x.hold(1, 1);
        due.is("one is held already", x.calm(0, 5, 15, 1), 4);
        due.is("the held one is told too", x.calm(0, 5, 6, 1), 4);
        x.hold(2, 1);
        due.is("all are held already", x.calm(0, 5, 15, 1), 0);
        due.is("none told, none needed", x.calm(0, 5, 0, 1), 0);
        due.is("the SHOT of another", x.calm(1, 5, 15, 1), 9);
        x.hold(0, 1);
        due.is("it asks for no more", x.calm(1, 5, 15, 1), 8);
        due.is("nothing came to be held", x.markTold(3, 5), 0);
    }

    private static void longCalm() {
        TruceLine x = new TruceLine();
        x.mark(1, 0, 3, 0);
        x.mark(1, 1, 4, 0);
        x.mark(1, 2, 4, 0);
        Tape.text(x, "breach 0 ; shoot hour < 30 ;");
        x.force(0, 1);
        x.force(1, 1);
        due.is("till HOUR 30", x.calm(0, 10, 0, 20), 0);
        due.is("still in HOUR 29", x.calm(0, 10, 0, 19), -1);
        due.is("shots in HOUR 29", x.shots(0, 10, 19), 2);
        due.is("shots in HOUR 30", x.shots(0, 10, 20), 0);
        due.is("the fewest are none", x.calm(0, 10, 7, 20), 0);
        due.is("one of them", x.calm(0, 10, 7, 19), 1);
        due.is("the other one", x.calm(0, 10, 6, 19), 2);
        due.is("24", x.calm(0, 5, 3, 24), 1);
        due.is("25 is enough", x.calm(0, 6, 3, 24), 0);
        due.is("the answer itself", x.calm(0, 10, 3, 1), 2);
    }

    private static void sixteen() {
        TruceLine x = new TruceLine();
        for (int m = 0; m < 16; m++) x.mark(0, m % 2, m % 8, 0);
        due.is("shots of the last one", x.shots(15, 10, 1), 0b0101000001010000);
        due.is("its answer", x.shots(15, 10, 2), 0b1010101010101010);
        due.is("calm of the last one", x.calm(15, 10, 0b0101010001010000, 1), 0b0101000001010000);
        for (int m = 0; m < 16; m++) x.hold(m, 1);
        due.is("all are held", x.shots(15, 10, 1), 0);
        due.is("all are held, and told", x.calm(15, 10, 63 << 10, 1), 0);
    }

    private static void refusedCalm() {
        TruceLine x = new TruceLine();
        for (int m = 0; m < 8; m++) x.mark(0, m == 7 ? 2 : m % 2, m, 0);
        due.is("a watcher", x.calm(7, 0, 0, 1), -2);
        due.is("no MARK", x.calm(8, 0, 0, 1), -2);
        due.is("MARK -1", x.calm(-1, 0, 0, 1), -2);
        due.is("hour -1", x.calm(0, -1, 0, 1), -2);
        due.is("hour 1000", x.calm(0, 1000, 0, 1), -2);
        due.is("seven told", x.calm(0, 0, 127, 1), -2);
        due.is("six told", x.calm(0, 0, 63, 1), 2 + 8);
        due.is("none such told", x.calm(0, 0, 256, 1), -2);
        due.is("below 0 told", x.calm(0, 0, -1, 1), -2);
        due.is("n 0", x.calm(0, 0, 0, 0), -2);
        due.is("n 25", x.calm(0, 0, 0, 25), -2);
        due.is("a watcher told", x.calm(0, 0, 128 + 42, 1), 2 + 8);
    }
}
