/** Promises 14 to 21: feed, text, force, says, breaches, astray, permit, may. */
public final class TruceTest {
    private static final Due due = new Due();
    private static final String TAIL = " ; shoot 0 ;";

    public static void main(String[] args) {
        feeding();
        faults();
        openOnes();
        fullTexts();
        forcing();
        values();
        names();
        breaking();
        knowing();
        straying();
        permits();
        due.end();
    }

    private static void feeding() {
        TruceLine x = new TruceLine();
        due.is("feed(0)", x.feed(0, 1), -2);
        due.is("feed(9)", x.feed(9, 1), -2);
        due.is("feed(-1)", x.feed(-1, 1), -2);
        due.is("feed(1)", x.feed(1, -1), 1);
        for (int i = 1; i < 20; i++) due.is("feed(8)", x.feed(8, 0x2020202020202020L), 1 + 8 * i);
        due.is("153 and 8", x.feed(8, 0), -4);
        due.is("153 and 9", x.feed(9, 0), -2);
        due.is("153 and 7", x.feed(7, 0), 160);
        due.is("160 and 1", x.feed(1, 0), -4);
        due.is("160", x.count(8), 160);
        due.is("the lowest byte came first", x.text(), -100);
        due.is("empty then", x.count(8), 0);
        due.is("nothing is no TEXT", x.text(), -100);
        Tape.feed(x, "breach 1");
        x.feed(2, 0xFFFF3B20L);
        due.is("two bytes of more", x.count(8), 10);
        due.is("ends too early", x.text(), -110);
    }

    private static void fault(String tape, int place) {
        TruceLine x = new TruceLine();
        due.is("fault of " + tape, Tape.text(x, tape), -100 - place);
        due.is("no TEXT came of " + tape, x.count(7), 1);
        due.is("THE TAPE is empty behind " + tape, x.count(8), 0);
    }

    private static void fine(String tape) {
        due.is("text of " + tape, Tape.text(new TruceLine(), tape), 1);
    }

    private static void faults() {
        fine("breach 1 ; shoot 2 ;");
        fine("breach1;shoot2;");
        fine(" \n breach\n9999 ;\nshoot 0000 ; \n ");
        fine("breach size+far*strip-hour<kind;shoot heard=0and not 1or 2;");
        fault("  ", 2);
        fault("shoot 1 ; breach 1 ;", 0);
        fault("breach 1", 8);
        fault("breach 1 ;", 10);
        fault("breach 1 ; ", 11);
        fault("breach 1 ; shoot 1", 18);
        fault("breach 1 ; shoot 1  ", 20);
        fault("breach ; shoot 1 ;", 7);
        fault("breach 1 ; breach 1 ;", 11);
        fault("breach 1 ; shoot 1 ; shoot", 21);
        fault("breach 1 ; shoot 1 ; @", 21);
        fault("breach 1 ; shoot 1 ; bogus", 21);
        fault("breach bogus ; shoot 1 ;", 7);
        fault("breach sizes ; shoot 1 ;", 7);
        fault("breach xize ; shoot 1 ;", 7);
        fault("breach 1 ; or 1 ;", 11);
        fault("breach 1 shoot 2 ; shoot 1 ;", 9);
        fault("breaches 1 ; shoot 1 ;", 0);
        fault("breach Size ; shoot 1 ;", 7);
        fault("breach 1 orand 2 ; shoot 1 ;", 9);
        fault("breach 12345 ; shoot 1 ;", 7);
        fault("breach 00000 ; shoot 1 ;", 7);
        fault("breach 1 2 ; shoot 1 ;", 9);
        fault("breach 1 size ; shoot 1 ;", 9);
        fault("breach 1 < 2 < 3 ; shoot 1 ;", 13);
        fault("breach 1 = 2 = 3 ; shoot 1 ;", 13);
        fault("breach 1 < not 2 ; shoot 1 ;", 11);
        fault("breach 1 + not 2 ; shoot 1 ;", 11);
        fault("breach 1 + ; shoot 1 ;", 11);
        fault("breach + 1 ; shoot 1 ;", 7);
        fault("breach 1 * * 2 ; shoot 1 ;", 11);
        fault("breach ( 1 ; shoot 1 ;", 11);
        fault("breach 1 ) ; shoot 1 ;", 9);
        fault("breach ( ) ; shoot 1 ;", 9);
        fault("breach 1 or ; shoot 1 ;", 12);
        fault("breach and 1 ; shoot 1 ;", 7);
        fault("breach 1\t; shoot 1 ;", 8);
        fault("breach 1 > 2 ; shoot 1 ;", 9);
        fault("breach \u00ff ; shoot 1 ;", 7);
        fault("breach \u0000 ; shoot 1 ;", 7);
        fault("breach 1 ; shoot 1 ; ;", 21);
        String filled = "breach 1 ; shoot 1 " + " ".repeat(137);
        fine(filled + "   ;");
        fault(filled + " + 1", 160);
        fault(filled + "+123", 160);
        fault(filled + "or a", 159);
        fault(filled + "    ", 160);
        fault(filled + "*far", 160);
        fine("breach 1" + "-1".repeat(70) + ";shoot 1 ; ");
    }

    private static void openOnes() {
        fine("breach (((((1)))))" + TAIL);
        fine("breach -----1" + TAIL);
        fine("breach not not not not not 1" + TAIL);
        fine("breach not(-(not 1))" + TAIL);
        fine("breach -1*-1*-1*-1*-1*-1*-1 - -1 - -1" + TAIL);
        fine("breach not 1 and not 1 and not 1 or not 1 and not 1 and not 1 or not 1" + TAIL);
        fine("breach (1)+(1)+(1)+(1)+(1)+(1)+(1)" + TAIL);
        fine("breach ((((-1))))-1" + TAIL);
        fine("breach (((((1-1)))))" + TAIL);
        fault("breach ((((((1))))))" + TAIL, 12);
        fault("breach ------1" + TAIL, 12);
        fault("breach not not not not not not 1" + TAIL, 27);
        fault("breach not(-(not(1)))" + TAIL, 16);
        fault("breach (((((-1)))))" + TAIL, 12);
        fault("breach (((((not 1)))))" + TAIL, 12);
        fault("breach (((((1)))) + 1" + TAIL, 22);
        fault("breach not not not (((1)))" + TAIL, 21);
        fault("breach not not not not not 1 < -1" + TAIL, 31);
        fault("breach 0 ; shoot ((((((1)))))) ;", 22);
    }

    private static void fullTexts() {
        TruceLine x = new TruceLine();
        for (int i = 1; i < 6; i++) due.is("TEXT " + i, Tape.text(x, "breach 1;shoot 1;"), i);
        Tape.feed(x, "breach 1;shoot 1;");
        due.is("a 7th TEXT", x.text(), -4);
        due.is("THE TAPE stays", x.count(8), 17);
        due.is("TEXTS", x.count(7), 6);
        TruceLine y = new TruceLine();
        for (int i = 1; i < 6; i++) Tape.text(y, "breach 1;shoot 1;");
        Tape.feed(y, "bogus");
        due.is("FULL ahead of a FAULT", y.text(), -4);
        due.is("THE TAPE stays with it", y.count(8), 5);
    }

    private static void forcing() {
        TruceLine x = new TruceLine();
        x.mark(1, 0, 3, 5);
        x.mark(1, 1, 4, 5);
        x.mark(1, 2, 4, 5);
        due.is("no TEXT 1", x.force(0, 1), -2);
        Tape.text(x, "breach 11 ; shoot 12 ;");
        Tape.text(x, "breach 21 ; shoot 22 ;");
        due.is("force(0, 1)", x.force(0, 1), 0);
        due.is("force(2, 2)", x.force(2, 2), 0);
        due.is("force(2, 3)", x.force(2, 3), -2);
        due.is("force(2, -1)", x.force(2, -1), -2);
        due.is("force(3, 0)", x.force(3, 0), -2);
        due.is("force(-1, 0)", x.force(-1, 0), -2);
        due.is("breach by THE TRUCE", x.says(0, 0, 0, 0), 21);
        due.is("shoot of SIDE 0", x.says(0, 0, 1, 0), 12);
        due.is("shoot of SIDE 1", x.says(1, 0, 1, 0), 0);
        due.is("shoot of the watchers", x.says(2, 0, 1, 0), 22);
        due.is("orders 0", x.count(9), 1);
        due.is("orders 1", x.count(10), 0);
        due.is("the truce", x.count(11), 2);
        due.is("back to TEXT 0", x.force(0, 0), 1);
        due.is("orders 0 again", x.count(9), 0);
    }

    private static void value(String e, long want) {
        TruceLine x = new TruceLine();
        x.mark(4, 0, 18, 7);
        due.is("text of " + e, Tape.text(x, "breach " + e + ";shoot " + e + ";"), 1);
        x.force(2, 1);
        x.force(0, 1);
        due.is(e, x.says(0, 12, 0, 0), want);
        due.is("shoot " + e, x.says(0, 12, 1, 0), want);
    }

    private static void values() {
        value("0", 0);
        value("0042", 42);
        value("9999", 9999);
        value("-5", -5);
        value("--5", 5);
        value("2+3*4", 14);
        value("(2+3)*4", 20);
        value("2-3-4", -5);
        value("2- -3", 5);
        value("-2*-3", 6);
        value("1<2", 1);
        value("2<2", 0);
        value("3<2", 0);
        value("2=2", 1);
        value("2=3", 0);
        value("1+1=2", 1);
        value("-1<0", 1);
        value("5 or 0", 1);
        value("0 or 0", 0);
        value("5 and 6", 1);
        value("5 and 0", 0);
        value("not 5", 0);
        value("not 0", 1);
        value("not not 5", 1);
        value("not 1 < 0", 1);
        value("not 0 + 1", 0);
        value("1 or 0 and 0", 1);
        value("(1 or 0) and 0", 0);
        value("not 1 or 1", 1);
        value("not (1 or 1)", 0);
        value("not 0 and 0", 0);
        value("-1 and 1", 1);
        value("9999*9999", 99980001);
        value("9999*9999*9999", 9999 * 9999 * 9999);
        value("9999*9999*22+9999*9999", 9999 * 9999 * 22 + 9999 * 9999);
        value("-(9999*9999)*9999-1", -(9999 * 9999) * 9999 - 1);
        value("(1<2)+(2<3)", 2);
        value("((((1+2)*3)-4)*5)", 25);
    }

    private static void names() {
        TruceLine x = new TruceLine();
        x.mark(4, 0, 18, 7);
        x.mark(1, 1, 16, 9);
        x.mark(1, 2, 16, 99);
        x.mark(3, 1, 28, 1);
        Tape.text(x, "breach size*1000+kind*100+strip*10+heard;shoot heard;");
        Tape.text(x, "breach far;shoot hour;");
        x.force(2, 1);
        due.is("size, kind of 0", x.says(0, 0, 0, 0), 7400);
        due.is("heard is 0 in breach", x.says(0, 0, 0, 99), 7400);
        due.is("size, kind of 2", x.says(2, 0, 0, 5), 99100);
        due.is("strip", x.says(3, 0, 0, 0), 1310);
        x.walk(3, 28);
        x.walk(3, 29);
        due.is("strip elsewhere", x.says(3, 1, 0, 0), 1300);
        x.force(2, 2);
        due.is("far of its own", x.says(0, 0, 0, 0), 1);
        due.is("far across", x.says(1, 0, 0, 0), -4);
        due.is("far of a watcher", x.says(2, 0, 0, 0), 3);
        due.is("far of a walker", x.says(3, 1, 0, 0), 1);
        x.line(2, 0);
        due.is("just across", x.says(0, 0, 0, 0), -3);
        due.is("at the line", x.says(1, 0, 0, 0), 0);
        x.line(2, 3);
        due.is("far at the line", x.says(0, 0, 0, 0), 0);
        x.line(2, 2);
        due.is("across at the line", x.says(0, 0, 0, 0), -1);
        x.force(0, 1);
        x.force(1, 2);
        due.is("heard", x.says(0, 0, 1, 99), 99);
        due.is("hour", x.says(1, 999, 1, 0), 999);
        due.is("part 2", x.says(0, 0, 2, 0), TruceLine.NO);
        due.is("part -1", x.says(0, 0, -1, 0), TruceLine.NO);
        due.is("heard 100", x.says(0, 0, 1, 100), TruceLine.NO);
        due.is("heard -1", x.says(0, 0, 0, -1), TruceLine.NO);
        due.is("hour 1000", x.says(0, 1000, 0, 0), TruceLine.NO);
        due.is("hour -1", x.says(0, -1, 0, 0), TruceLine.NO);
        due.is("MARK 4", x.says(4, 0, 0, 0), TruceLine.NO);
        x.gone(0, 1);
        due.is("of one that is gone", x.says(0, 0, 1, 8), 8);
    }

    private static void breaking() {
        TruceLine x = new TruceLine();
        x.mark(0, 0, 3, 0);
        x.mark(0, 0, 3, 1);
        x.mark(0, 0, 2, 9);
        x.mark(0, 0, 5, 0);
        x.mark(0, 2, 4, 1);
        x.mark(0, 2, 0, 9);
        due.is("first TRUCE", x.breaches(-1, 0), 2 + 8 + 16);
        x.gone(1, 1);
        due.is("one is gone", x.breaches(-1, 0), 8 + 16);
        x.set(0, 4);
        due.is("a wide strip", x.breaches(-1, 0), 4 + 8 + 16 + 32);
        x.set(0, 0);
        due.is("no strip", x.breaches(-1, 0), 8);
        due.is("side 3", x.breaches(3, 0), -2);
        due.is("side -2", x.breaches(-2, 0), -2);
        due.is("hour 1000", x.breaches(-1, 1000), -2);
        due.is("hour -1", x.breaches(0, -1), -2);
    }

    private static void knowing() {
        TruceLine x = new TruceLine();
        x.mark(1, 0, 27, 1);
        x.mark(0, 1, 28, 1);
        x.mark(0, 2, 36, 1);
        x.mark(0, 1, 63, 1);
        x.line(7, 8);
        due.is("all", x.breaches(-1, 12), 15);
        due.is("side 0 knows", x.breaches(0, 12), 6);
        due.is("side 1 knows", x.breaches(1, 12), 0);
        due.is("the watchers know", x.breaches(2, 12), 0);
        x.mark(1, 2, 29, 0);
        x.mark(1, 1, 62, 0);
        x.line(7, 4);
        due.is("the watchers know now", x.breaches(2, 12), 3);
        due.is("side 1 knows nothing of its own", x.breaches(1, 12), 4);
        x.gone(0, 1);
        due.is("one that is gone knows nothing", x.breaches(0, 12), 0);
    }

    private static void straying() {
        TruceLine x = new TruceLine();
        x.mark(1, 0, 4, 1);
        x.mark(1, 1, 3, 1);
        x.mark(1, 2, 3, 1);
        x.mark(3, 0, 3, 1);
        x.walk(3, 3);
        x.walk(3, 4);
        due.is("astray(0)", x.astray(0), 3);
        due.is("astray(1)", x.astray(1), 11);
        x.gone(0, 1);
        due.is("one is gone", x.astray(1), 10);
        x.line(0, 8);
        due.is("shifted", x.astray(1), 2);
        due.is("astray(-1)", x.astray(-1), -2);
        due.is("astray(1000)", x.astray(1000), -2);
    }

    private static void permits() {
        TruceLine x = new TruceLine();
        due.is("person -1", x.permit(-1, 0, 0, 0, 1), -2);
        due.is("person 100", x.permit(100, 0, 0, 0, 1), -2);
        due.is("from -1", x.permit(0, -1, 0, 0, 1), -2);
        due.is("to 8", x.permit(0, 0, 8, 0, 1), -2);
        due.is("to above from", x.permit(0, 4, 3, 0, 1), -2);
        due.is("since -1", x.permit(0, 0, 0, -1, 1), -2);
        due.is("until 1000", x.permit(0, 0, 0, 0, 1000), -2);
        due.is("no HOUR", x.permit(0, 0, 0, 5, 5), -2);
        due.is("until ahead", x.permit(0, 0, 0, 5, 4), -2);
        due.is("none", x.count(1), 0);
        due.is("none may", x.may(7, 0, 0), -1);
        due.is("nor person 0", x.may(0, 63, 0), -1);
        due.is("first", x.permit(7, 2, 3, 10, 20), 0);
        due.is("second", x.permit(7, 3, 7, 0, 999), 1);
        due.is("third", x.permit(99, 0, 0, 998, 999), 2);
        due.is("row above", x.may(7, 15, 10), -1);
        due.is("first row", x.may(7, 16, 10), 0);
        due.is("last row", x.may(7, 31, 19), 0);
        due.is("then the second", x.may(7, 31, 20), 1);
        due.is("ahead of it", x.may(7, 23, 9), -1);
        due.is("behind it", x.may(7, 16, 20), -1);
        due.is("last row of all", x.may(7, 63, 998), 1);
        due.is("last HOUR", x.may(7, 63, 999), -1);
        due.is("another one", x.may(8, 20, 10), -1);
        due.is("person 99", x.may(99, 0, 998), 2);
        due.is("may of 100", x.may(100, 0, 0), -2);
        due.is("may of -1", x.may(-1, 0, 0), -2);
        due.is("may in 64", x.may(0, 64, 0), -2);
        due.is("may at 1000", x.may(0, 0, 1000), -2);
        due.is("the last row alone", x.permit(0, 7, 7, 0, 1), 3);
        due.is("person 0 there", x.may(0, 56, 0), 3);
        for (int i = 4; i < 12; i++) due.is("permit " + i, x.permit(0, 0, 7, 0, 999), i);
        due.is("a 13th", x.permit(0, 0, 7, 0, 999), -4);
        due.is("a wrong 13th", x.permit(0, 0, 8, 0, 999), -2);
        due.is("count", x.count(1), 12);
    }
}
