/** Promises 38 to 44: protest, answer, late, blame, listed, alone, count. */
public final class PapersTest {
    private static final Due due = new Due();

    public static void main(String[] args) {
        protesting();
        answering();
        beingLate();
        blaming();
        listing();
        counting();
        due.end();
    }

    private static void protesting() {
        TruceLine x = new TruceLine();
        due.is("side -1", x.protest(-1, 5, 5), -2);
        due.is("side 2", x.protest(2, 5, 5), -2);
        due.is("hour -1", x.protest(0, -1, 0), -2);
        due.is("hour 1000", x.protest(0, 1000, 0), -2);
        due.is("about -1", x.protest(0, 5, -1), -2);
        due.is("about behind it", x.protest(0, 5, 6), -2);
        due.is("about its own HOUR", x.protest(0, 5, 5), 0);
        for (int p = 1; p < 20; p++) due.is("protest " + p, x.protest(p % 2, 999, 0), p);
        due.is("a 21st", x.protest(0, 5, 5), -4);
        due.is("a wrong 21st", x.protest(0, 5, 6), -2);
        due.is("count", x.count(5), 20);
    }

    private static void answering() {
        TruceLine x = new TruceLine();
        x.protest(0, 10, 3);
        x.protest(1, 20, 3);
        due.is("ahead of it", x.answer(0, 9), -2);
        due.is("hour 1000", x.answer(0, 1000), -2);
        due.is("hour -1", x.answer(0, -1), -2);
        due.is("PROTEST 2", x.answer(2, 50), -2);
        due.is("PROTEST -1", x.answer(-1, 50), -2);
        due.is("at once", x.answer(0, 10), 0);
        due.is("again", x.answer(0, 11), -3);
        due.is("again, ahead of it", x.answer(0, 9), -2);
        due.is("in the last HOUR", x.answer(1, 999), 979);
    }

    private static void beingLate() {
        TruceLine x = new TruceLine();
        x.protest(0, 0, 0);
        x.protest(1, 100, 0);
        x.protest(0, 100, 0);
        due.is("late(47)", x.late(47), 0);
        due.is("late(48)", x.late(48), 1);
        due.is("late(147)", x.late(147), 1);
        due.is("late(148)", x.late(148), 7);
        x.answer(1, 147);
        due.is("answered in time", x.late(148), 5);
        x.answer(2, 148);
        due.is("answered in that HOUR", x.late(148), 1);
        x.answer(0, 50);
        due.is("late till then", x.late(49), 1);
        due.is("answered then", x.late(50), 0);
        due.is("late(-1)", x.late(-1), -2);
        due.is("late(1000)", x.late(1000), -2);
        x.protest(0, 951, 0);
        due.is("late(998)", x.late(998), 0);
        due.is("late(999)", x.late(999), 8);
    }

    private static void blaming() {
        TruceLine x = new TruceLine();
        x.protest(0, 10, 3);
        x.protest(0, 11, 3);
        x.protest(1, 12, 4);
        due.is("none", x.blame(0), -1);
        x.protest(1, 13, 3);
        x.protest(1, 14, 3);
        due.is("blame(0)", x.blame(0), 3);
        due.is("blame(1)", x.blame(1), 3);
        due.is("blame(2)", x.blame(2), -1);
        due.is("blame(3)", x.blame(3), 0);
        due.is("blame(4)", x.blame(4), 0);
        due.is("blame(5)", x.blame(5), -2);
        due.is("blame(-1)", x.blame(-1), -2);
    }

    private static void listing() {
        TruceLine x = new TruceLine();
        due.is("side 2", x.listed(2, 0, 1), -2);
        due.is("side -1", x.listed(-1, 0, 1), -2);
        due.is("person 64", x.listed(0, 64, 1), -2);
        due.is("person -1", x.listed(0, -1, 1), -2);
        due.is("is 2", x.listed(0, 0, 2), -2);
        due.is("is -1", x.listed(0, 0, -1), -2);
        due.is("none", x.alone(-1), 0);
        due.is("onto", x.listed(0, 0, 1), 0);
        due.is("onto again", x.listed(0, 0, 1), 1);
        due.is("63 onto", x.listed(0, 63, 1), 0);
        due.is("40 onto", x.listed(1, 40, 1), 0);
        due.is("40 onto", x.listed(0, 40, 1), 0);
        due.is("41 onto", x.listed(1, 41, 1), 0);
        due.is("alone(0)", x.alone(0), 1L | 1L << 63);
        due.is("alone(1)", x.alone(1), 1L << 41);
        due.is("alone(-1)", x.alone(-1), 1L | 1L << 63 | 1L << 41);
        due.is("40 off", x.listed(0, 40, 0), 1);
        due.is("40 off again", x.listed(0, 40, 0), 0);
        due.is("40 alone", x.alone(1), 3L << 40);
        due.is("alone(2)", x.alone(2), TruceLine.NO);
        due.is("alone(-2)", x.alone(-2), TruceLine.NO);
    }

    private static void counting() {
        TruceLine x = new TruceLine();
        x.mark(1, 0, 0, 0);
        for (int i = 0; i < 2; i++) x.permit(0, 0, 0, 0, 1);
        for (int i = 0; i < 3; i++) x.doing(0, 0, 0);
        for (int i = 0; i < 4; i++) x.report(0, 0, 0, 0);
        for (int i = 0; i < 5; i++) x.finding(0, 0, 0);
        for (int i = 0; i < 6; i++) x.protest(0, 0, 0);
        for (int i = 0; i < 7; i++) x.list(0);
        for (int i = 0; i < 3; i++) Tape.text(x, "breach 0;shoot 0;");
        x.feed(5, 0);
        x.force(0, 1);
        x.force(1, 2);
        x.force(2, 3);
        int[] want = {1, 2, 3, 4, 5, 6, 7, 4, 5, 1, 2, 3};
        for (int what = 0; what < 12; what++) due.is("count(" + what + ")", x.count(what), want[what]);
        due.is("count(-1)", x.count(-1), -2);
        due.is("count(12)", x.count(12), -2);
    }
}
