/** The edges that THE TAPE, TEXTS, FAULTS and promises 14 and 15 name, sentence by sentence. */
public final class TextEdgesTest {
    private static final int BAD = Edges.BAD, FULL = Edges.FULL, LEAST = Edges.LEAST, GREATEST = Edges.GREATEST;
    private static final String TAIL = " ; shoot 1 ;";
    private static final Edges edges = new Edges();

    public static void main(String[] args) {
        feed();
        fullTape();
        lowestBytes();
        everyByte();
        words();
        numbers();
        blanks();
        tooEarly();
        shapes();
        openAtMost();
        closedAgain();
        text();
        fullTexts();
        edges.end();
    }

    private static void fine(String tape) {
        edges.is(tape, 1, x -> Tape.text(x, tape));
    }

    private static void fault(int place, String tape) {
        edges.is(tape, -100 - place, x -> Tape.text(x, tape));
        edges.is(tape + ": no TEXT more", 1, x -> Tape.text(x, tape), x -> x.count(7));
    }

    private static void feed() {
        edges.of("promise 14: BAD: n is not 1 .. 8", x -> x.feed(2, 0x6262L));
        edges.is("the least n", 3, x -> x.feed(1, 0x63L));
        edges.is("the greatest n", 10, x -> x.feed(8, -1L));
        edges.refused("0", BAD, x -> x.feed(0, 0x63L));
        edges.refused("9", BAD, x -> x.feed(9, 0x63L));
        edges.refused("-1", BAD, x -> x.feed(-1, 0x63L));
        edges.refused("the least", BAD, x -> x.feed(LEAST, Long.MIN_VALUE));
        edges.refused("the greatest", BAD, x -> x.feed(GREATEST, Long.MAX_VALUE));
    }

    private static void blanksOn(TruceLine x, int n) {
        for (int left = n; left > 0; left -= 8) x.feed(Math.min(8, left), 0x2020202020202020L);
    }

    private static void fullTape() {
        edges.of("3 THE TAPE: 160 bytes at most, 152 on it", x -> blanksOn(x, 152));
        edges.is("8 more", 160, x -> x.feed(8, 0x6161616161616161L));
        edges.is("8 more, the first of them is read", -252, x -> x.feed(8, 0x2020202020202062L), x -> x.text());
        edges.is("8 more, the last of them is read", -259, x -> x.feed(8, 0x6220202020202020L), x -> x.text());
        edges.of("3 THE TAPE: 160 bytes at most, 153 on it", x -> blanksOn(x, 153));
        edges.refused("8 more: FULL, and none of them comes", FULL, x -> x.feed(8, 0x6161616161616161L));
        edges.is("7 more still", 160, x -> x.feed(8, 0x61L), x -> x.feed(7, 0x61L));
        edges.of("3 THE TAPE: 160 bytes at most, 160 on it", x -> blanksOn(x, 160));
        edges.refused("1 more", FULL, x -> x.feed(1, 0x61L));
        edges.refused("9 more: BAD comes ahead", BAD, x -> x.feed(9, 0x61L));
        edges.refused("0 more: BAD comes ahead", BAD, x -> x.feed(0, 0x61L));
        edges.is("all blanks: it ends too early", -260, x -> x.text());
        edges.is("empty then, room for 8", 8, x -> x.text(), x -> x.feed(8, 0x61L));
    }

    private static void lowestBytes() {
        edges.of("promise 14: the n lowest bytes, the lowest first");
        edges.is("the lowest comes first", -100, x -> x.feed(8, 0x2020202020202040L), x -> x.text());
        edges.is("the highest comes last", -107, x -> x.feed(8, 0x4020202020202020L), x -> x.text());
        edges.is("the higher ones do not come", -102, x -> x.feed(2, 0x4040404040402020L), x -> x.text());
        edges.is("a byte of 255", -101, x -> x.feed(3, 0xFFFFFFFFFF20FF20L), x -> x.text());
    }

    /** What is due for each byte that stands where an E is to begin, a blank on both its sides. */
    private static int faultOf(int b) {
        if (b >= '0' && b <= '9') return 1;
        return b == ' ' || b == '\n' || b == '-' || b == '(' ? -109 : -107;
    }

    private static int faultBehindNumber(char sign) {
        if (sign >= '0' && sign <= '9' || sign == ' ' || sign == '\n') return 1;
        return "+-*<=;".indexOf(sign) >= 0 ? -110 : -108;
    }

    private static void everyByte() {
        edges.of("3 FAULT: also of a byte that begins none");
        for (int b = 0; b < 256; b++) {
            char sign = (char) b;
            edges.is("byte " + b + " at an E", faultOf(b), x -> Tape.text(x, "breach " + sign + " ; shoot 1 ;"));
            boolean blank = b == ' ' || b == '\n';
            edges.is("byte " + b + " ahead of all", blank ? 1 : -100, x -> Tape.text(x, sign + "breach 1 ; shoot 1 ;"));
            edges.is("byte " + b + " behind all", blank ? 1 : -120, x -> Tape.text(x, "breach 1 ; shoot 1 ;" + sign));
            edges.is("byte " + b + " behind a NUMBER", faultBehindNumber(sign),
                x -> Tape.text(x, "breach 1" + sign + " ; shoot 1 ;"));
        }
    }

    private static void words() {
        edges.of("3 WORDS (a .. z), each as long as can be; one that is neither KEY nor NAME");
        String[] names = {"size", "far", "strip", "hour", "kind", "heard"};
        for (String name : names) {
            fine("breach " + name + ";shoot " + name + ";");
            fault(7, "breach " + name + "s" + TAIL);
            fault(7, "breach x" + name + TAIL);
            fault(7, "breach " + name.substring(1) + TAIL);
            fault(7, "breach " + name.substring(0, name.length() - 1) + TAIL);
            fault(7, "breach " + name.toUpperCase() + TAIL);
            fault(7 + name.length(), "breach " + name + "1" + TAIL);
            fault(8 + name.length(), "breach " + name + " " + name + TAIL);
            fault(9, "breach 1 " + name + " 1" + TAIL);
            for (int i = 0; i < name.length(); i++) {
                fault(7, "breach " + name.substring(0, i) + "q" + name.substring(i + 1) + TAIL);
            }
        }
        String[] keys = {"breach", "shoot", "or", "and"};
        for (String key : keys) {
            fault(7, "breach " + key + " 1" + TAIL);
            for (int i = 0; i < key.length(); i++) {
                fault(9, "breach 1 " + key.substring(0, i) + "q" + key.substring(i + 1) + " 1" + TAIL);
            }
        }
        fault(9, "breach 1 breach 1" + TAIL);
        fault(9, "breach 1 shoot 1" + TAIL);
        fault(9, "breach 1 not 1" + TAIL);
        fault(9, "breach 1 qot 1" + TAIL);
        fine("breach 1 or 1" + TAIL);
        fine("breach 1 and 1" + TAIL);
        fine("breach not 1" + TAIL);
        fine("breach not1" + TAIL);
        fault(7, "breach notsize" + TAIL);
        fault(7, "breach sizefar" + TAIL);
        fault(12, "breach size orfar" + TAIL);
        fault(0, "breachsize" + TAIL);
        fault(0, "breac 1" + TAIL);
        fault(0, "b");
        fault(0, "a".repeat(160));
        fault(7, "breach " + "z".repeat(153));
    }

    private static void numbers() {
        edges.of("3 NUMBERS (as many digits as stand there, 4 at most); one that is too long");
        for (String number : new String[] {"0", "9", "00", "99", "0000", "9999"}) fine("breach " + number + TAIL);
        for (String number : new String[] {"00000", "10000", "99999", "123456", "4294967296"}) {
            fault(7, "breach " + number + TAIL);
            fault(9, "breach -(" + number + ")" + TAIL);
        }
        fault(7, "breach " + "1".repeat(153));
        fault(0, "12345");
        fault(12, "breach 1234 5" + TAIL);
        fault(11, "breach 1234size" + TAIL);
        fine("breach 1234+5678or 1234and 5678" + TAIL);
        fault(8, "breach 1,5" + TAIL);
        fault(8, "breach 1.5" + TAIL);
    }

    private static void blanks() {
        edges.of("3 blanks (32, 10) may stand between");
        fine("breach1;shoot1;");
        fine("\n\n breach\n\n1\n\n;\n\nshoot\n\n1\n\n;\n\n");
        fine(" ".repeat(145) + "breach1;shoot1;");
        fine("breach1;shoot1;" + "\n".repeat(145));
        fine("breach(size)*-far<(hour);shoot-1=-1;");
        fine("breach(size)*-far<(hour)and not(1)or not-1;shoot-1;");
        fault(6, "breach\t1" + TAIL);
        fault(6, "breach\r\n1" + TAIL);
        fault(6, "breach\u000b1" + TAIL);
        fault(6, "breach\u00a01" + TAIL);
        fault(0, "bre ach 1" + TAIL);
    }

    private static void tooEarly() {
        edges.of("3 FAULT: the text's size, if it ends too early");
        edges.is("an empty TAPE", -100, x -> x.text());
        edges.is("an empty TAPE again", -100, x -> x.text(), x -> x.text());
        String whole = "breach not ( size + - 5 * far = hour ) and kind or 1 ; shoot 0 < heard ;";
        edges.is("the whole of it", 1, x -> Tape.text(x, whole));
        for (int end = 1; end < whole.length(); end++) {
            if (whole.charAt(end) != ' ') continue;
            fault(end, whole.substring(0, end));
            fault(end + 1, whole.substring(0, end) + "\n");
        }
        fault(160, whole.substring(0, 22) + " ".repeat(138));
        fault(0, ";".repeat(160));
        fault(1, " " + ";".repeat(159));
        fault(159, "breach " + "-1".repeat(76));
    }

    private static void shapes() {
        edges.of("3 FAULT: the first TOKEN that can't stand there");
        fault(0, ";");
        fault(0, "shoot 1 ; breach 1 ;");
        fault(7, "breach ; shoot 1 ;");
        fault(11, "breach 1 ; breach 1 ;");
        fault(17, "breach 1 ; shoot ;");
        fault(21, "breach 1 ; shoot 1 ; 1");
        fault(21, "breach 1 ; shoot 1 ; breach 1 ; shoot 1 ;");
        fault(13, "breach 1 < 2 < 3" + TAIL);
        fault(13, "breach 1 = 2 < 3" + TAIL);
        fault(13, "breach 1 < 2 = 3" + TAIL);
        fault(11, "breach 1 < not 1" + TAIL);
        fault(11, "breach 1 + not 1" + TAIL);
        fault(11, "breach 1 * not 1" + TAIL);
        fault(8, "breach -not 1" + TAIL);
        fault(11, "breach 1 + + 1" + TAIL);
        fault(11, "breach 1 < < 1" + TAIL);
        fault(12, "breach 1 or or 1" + TAIL);
        fault(13, "breach 1 and and 1" + TAIL);
        fault(9, "breach 1 not 1" + TAIL);
        fault(9, "breach 1 ( 1 )" + TAIL);
        fault(9, "breach ( ) " + TAIL);
        fault(9, "breach 1 )" + TAIL);
        fault(11, "breach ( 1 ; shoot 1 ;");
        fine("breach (1 < 2) < 3 and not 1 = 2 or (not 1) + 1" + TAIL);
        edges.of("3 FAULT: the first one, though others come behind");
        fault(7, "breach @ 12345 bogus ) ;");
        fault(9, "breach 1 1 @");
        fault(7, "breach bogus @");
    }

    private static void openAtMost() {
        edges.of("3 FAULT: a ( , a not, a - ahead of a ONE while 5 of these are open");
        String[] openers = {"(", "not ", "-"};
        for (String first : openers) {
            for (String last : openers) {
                String five = first.repeat(4) + last;
                // A not behind a - can't stand there anyway.
                if (first.equals("-") && last.equals("not ")) continue;
                fine("breach " + five + "1" + closers(five) + TAIL);
                for (String sixth : openers) {
                    fault(7 + five.length(), "breach " + five + sixth + "1" + closers(five + sixth) + TAIL);
                }
            }
        }
        fault(31, "breach 1 ; shoot not not not ((( 1 ))) ;");
        fine("breach (((((1))))) ; shoot (((((1))))) ;");
    }

    private static String closers(String openers) {
        StringBuilder s = new StringBuilder();
        for (int i = 0; i < openers.length(); i++) {
            if (openers.charAt(i) == '(') s.append(')');
        }
        return s.toString();
    }

    private static void closedAgain() {
        edges.of("3 a ( is open till its ) , not and - till what they belong to ends");
        fine("breach (((((1)))))+(((((1)))))" + TAIL);
        fine("breach -----1*-----1+-----1<-----1" + TAIL);
        fine("breach not not not not not 1 and not not not not not 1" + TAIL);
        fine("breach not not not not not 1 or not not not not not 1" + TAIL);
        fine("breach ((((-1*-1+-1-(1)))))" + TAIL);
        fine("breach ((((not 1 and not 1 or (1)))))" + TAIL);
        fine("breach not not not not 1<-1" + TAIL);
        fine("breach not not not not 1*(1)" + TAIL);
        fault(29, "breach not not not not not 1<-1" + TAIL);
        fault(29, "breach not not not not not 1+(1)" + TAIL);
        fault(30, "breach not not not not not 1 *(1)" + TAIL);
        fault(23, "breach ((((1 and (1 or (1))))))" + TAIL);
        fault(14, "breach ----(1+-1)" + TAIL);
        fine("breach ----(1)-1--1" + TAIL);
    }

    private static void text() {
        edges.of("promise 15: THE TAPE, which is empty then (by a FAULT, too), is a TEXT: its number");
        edges.is("the first", 1, x -> Tape.text(x, "breach 1" + TAIL));
        edges.is("empty then", 0, x -> Tape.text(x, "breach 1" + TAIL), x -> x.count(8));
        edges.is("empty by a FAULT, too", 0, x -> Tape.text(x, "breach @" + TAIL), x -> x.count(8));
        edges.is("a FAULT takes no number", 1, x -> Tape.text(x, "breach 1 ; shoot @ ;"), x -> Tape.text(x, "breach 1" + TAIL));
        edges.is("what was read ahead of a FAULT is gone", 1, x -> {
            Tape.text(x, "breach 77 ; shoot @ ;");
            x.mark(1, 0, 3, 1);
        }, x -> x.says(0, 0, 0, 0));
        edges.is("the second", 2, x -> Tape.text(x, "breach 1" + TAIL), x -> Tape.text(x, "breach 2" + TAIL));
        edges.is("the least FAULT", -100, x -> Tape.text(x, ";"));
        edges.is("the greatest FAULT", -260, x -> Tape.text(x, " ".repeat(160)));
    }

    private static void fullTexts() {
        edges.of("3 There are 6 TEXTS at most, TEXT 0 with them", x -> texts(x, 4));
        edges.is("the 6th", 5, x -> Tape.text(x, "breach 1" + TAIL));
        edges.is("6 are counted", 6, x -> Tape.text(x, "breach 1" + TAIL), x -> x.count(7));
        edges.of("promise 15: FULL (ahead of all): no TEXT more has room (THE TAPE stays)", x -> texts(x, 5));
        edges.refused("a 7th, THE TAPE is empty", FULL, x -> x.text());
        edges.is("THE TAPE stays", 20, x -> {
            Tape.feed(x, "breach 1" + TAIL);
            x.text();
        }, x -> x.count(8));
        edges.of("promise 15: FULL (ahead of all), a lawful TAPE", x -> {
            texts(x, 5);
            Tape.feed(x, "breach 1" + TAIL);
        });
        edges.refused("a 7th", FULL, x -> x.text());
        edges.of("promise 15: FULL (ahead of all), a faulty TAPE", x -> {
            texts(x, 5);
            Tape.feed(x, "breach @" + TAIL);
        });
        edges.refused("a 7th: no FAULT is told", FULL, x -> x.text());
        edges.is("it goes on behind what stayed", 28, x -> x.text(), x -> x.feed(8, 0x20L));
    }

    private static void texts(TruceLine x, int n) {
        for (int i = 0; i < n; i++) Tape.text(x, "breach " + i + TAIL);
    }
}
