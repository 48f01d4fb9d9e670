/** Every refusal, with its number: it changes nothing that can be told. */
public final class RefusalTest {
    private interface Call {
        long on(TruceLine x);
    }

    private static final Due due = new Due();
    private static final long NO = TruceLine.NO;

    public static void main(String[] args) {
        ordinary();
        host();
        ofFullTables();
        due.end();
    }

    private static TruceLine some() {
        TruceLine x = new TruceLine();
        x.height(20, 4);
        x.line(3, 3);
        x.set(0, 2);
        x.mark(1, 0, 27, 3);
        x.mark(3, 1, 28, 4);
        x.mark(5, 0, 26, 8);
        x.mark(2, 2, 3, 9);
        x.mark(2, 1, 44, 7);
        x.walk(1, 28);
        x.walk(1, 12);
        x.gone(4, 1);
        x.hold(0, 1);
        x.permit(5, 2, 4, 10, 20);
        x.doing(0, 4, 13);
        x.doing(3, 5, 0);
        x.report(0, 13, 0, 1);
        x.report(0, 13, 1, 1);
        x.takeBack(1);
        x.finding(0, 1, 0);
        x.list(9);
        x.list(18);
        x.protest(0, 10, 9);
        x.protest(1, 12, 9);
        x.answer(0, 60);
        x.listed(0, 3, 1);
        x.sheet(0, 0, 8);
        x.sheet(1, 1, 8);
        for (int i = 0; i < 8; i++) x.cell(0, i, i);
        Tape.text(x, "breach 1;shoot 1;");
        x.force(1, 1);
        x.feed(3, 0x313233);
        return x;
    }

    private static TruceLine full() {
        TruceLine x = new TruceLine();
        for (int i = 0; i < 16; i++) x.mark(3, i % 2, i, i);
        for (int i = 0; i < 6; i++) x.walk(0, i);
        for (int i = 0; i < 12; i++) x.permit(i, 0, 7, 0, 9);
        for (int i = 0; i < 12; i++) x.doing(i % 4, i, 0);
        for (int i = 0; i < 24; i++) x.report(i % 16, 0, 0, 1);
        for (int i = 0; i < 10; i++) x.finding(i, 1 << i, 0);
        for (int i = 0; i < 10; i++) x.list(i);
        for (int i = 0; i < 20; i++) x.protest(i % 2, 10 + i, i);
        for (int i = 1; i < 6; i++) Tape.text(x, "breach 1;shoot 1;");
        for (int i = 0; i < 20; i++) x.feed(8, 0x3131313131313131L);
        return x;
    }

    private static void refused(String call, Call made, long want) {
        TruceLine x = some();
        due.is(call, made.on(x), want);
        due.same("state behind " + call, Told.of(x), Told.of(some()));
    }

    private static void full(String call, Call made) {
        TruceLine x = full();
        due.is(call, made.on(x), -4);
        due.same("state behind " + call, Told.of(x), Told.of(full()));
    }

    private static void ordinary() {
        refused("height", x -> x.height(20, 10), -2);
        refused("line", x -> x.line(3, 9), -2);
        refused("set 0", x -> x.set(0, 5), -2);
        refused("set 1", x -> x.set(1, 6), -2);
        refused("set 2", x -> x.set(2, 0), -2);
        refused("cellTold", x -> x.cellTold(64, 0), -2);
        refused("mark", x -> x.mark(1, 0, 27, 100), -2);
        refused("walk", x -> x.walk(1, 64), -2);
        refused("walk of a POST", x -> x.walk(0, 5), -13);
        refused("gone", x -> x.gone(0, 2), -2);
        refused("markTold", x -> x.markTold(0, 6), -2);
        refused("at", x -> x.at(0, 1000), -2);
        refused("sight", x -> x.sight(5, 0), -2);
        refused("sees", x -> x.sees(5, 0), NO);
        refused("view", x -> x.view(3, 0), NO);
        refused("feed", x -> x.feed(9, 0), -2);
        refused("force", x -> x.force(0, 2), -2);
        refused("says", x -> x.says(0, 0, 2, 0), NO);
        refused("breaches", x -> x.breaches(3, 0), -2);
        refused("astray", x -> x.astray(1000), -2);
        refused("permit", x -> x.permit(5, 3, 2, 0, 9), -2);
        refused("may", x -> x.may(100, 0, 0), -2);
        refused("may not", x -> x.may(6, 0, 0), -1);
        refused("doing", x -> x.doing(4, 0, 0), -2);
        refused("report", x -> x.report(5, 0, 0, 0), -2);
        refused("takeBack", x -> x.takeBack(2), -2);
        refused("takeBack again", x -> x.takeBack(1), -3);
        refused("lets", x -> x.lets(2, 0), -2);
        refused("worst", x -> x.worst(4, 0, 0), -2);
        refused("look", x -> x.look(-1), -2);
        refused("finding", x -> x.finding(0, 4, 0), -2);
        refused("hold", x -> x.hold(0, 2), -2);
        refused("shots", x -> x.shots(3, 0, 0), -2);
        refused("calm", x -> x.calm(0, 0, 0, 25), -2);
        refused("list", x -> x.list(64), -2);
        refused("cover", x -> x.cover(11, 0, 0), -2);
        refused("cover of too many", x -> x.cover(3, 0, 0), -1);
        refused("drawBack", x -> x.drawBack(16, 9999, 0), -2);
        refused("drawBack in no order", x -> x.drawBack(4, 7, 0), -1);
        refused("strength", x -> x.strength(3), -2);
        refused("protest", x -> x.protest(0, 9, 10), -2);
        refused("answer", x -> x.answer(1, 11), -2);
        refused("answer again", x -> x.answer(0, 61), -3);
        refused("late", x -> x.late(1000), -2);
        refused("blame", x -> x.blame(2), -2);
        refused("listed", x -> x.listed(2, 3, 0), -2);
        refused("alone", x -> x.alone(2), NO);
        refused("count", x -> x.count(12), -2);
    }

    private static void host() {
        refused("sheet", x -> x.sheet(0, 0, 41), -2);
        refused("sheet below 0", x -> x.sheet(0, 0, -1), -14);
        refused("cell", x -> x.cell(4, 0, 9), -2);
        refused("cell of a missing one", x -> x.cell(2, 0, 9), -11);
        refused("cell outside", x -> x.cell(0, 8, 9), -12);
        refused("copy", x -> x.copy(0, 0, 4, 0, 1), -2);
        refused("copy to a missing one", x -> x.copy(0, 0, 2, 0, 1), -11);
        refused("copy to an unlike one", x -> x.copy(0, 0, 1, 0, 1), -13);
        refused("copy outside", x -> x.copy(0, 1, 0, 0, 8), -12);
        refused("copy of less than none", x -> x.copy(0, 1, 0, 0, -1), -12);
        refused("heights", x -> x.heights(0, 0, 0, 0, 9), -2);
        refused("heights of an unlike one", x -> x.heights(0, 0, 1, 0, 8), -13);
        refused("heights of a missing one", x -> x.heights(0, 2, 0, 0, 8), -11);
        refused("heights outside", x -> x.heights(0, 0, 0, 8, 1), -12);
        refused("taken", x -> x.taken(0, 6), -2);
        refused("taken of none", x -> x.taken(5, 0), -11);
        refused("taken for another", x -> x.taken(0, 2), -13);
    }

    private static void ofFullTables() {
        full("mark", x -> x.mark(1, 0, 27, 3));
        full("walk", x -> x.walk(0, 27));
        full("feed", x -> x.feed(1, 0));
        full("text", x -> x.text());
        full("permit", x -> x.permit(5, 2, 4, 10, 20));
        full("doing", x -> x.doing(0, 4, 13));
        full("report", x -> x.report(0, 13, 0, 1));
        full("finding", x -> x.finding(0, 1, 0));
        full("list", x -> x.list(9));
        full("protest", x -> x.protest(0, 10, 9));
    }
}
