import java.util.Arrays;

/** Four miles between two armies: see README.md, and DOC.md for what each call promises. */
public final class TruceLine {
    public static final int NONE = -1, BAD = -2, STATE = -3, FULL = -4;
    public static final long NO = -4611686018427387904L;

    private static final int NOTHING = -11, OUTSIDE = -12, UNLIKE = -13, BELOW = -14;

    private static final int CELLS = 64, ROWS = 8, COLUMNS = 8, HOURS = 1000;
    private static final int MOST_HEIGHT = 9, MOST_WIDTH = 4, MOST_MIST = 5, MOST_SIZE = 99;
    private static final int WATCHERS = 2;
    private static final int BREACH_PART = 0, SHOOT_PART = 1, TRUCE = 2;
    private static final int EAR = 0, EYE = 1;
    private static final int MOST_HEARD = 99, MOST_PERSON = 99, MOST_LISTED = 63, MOST_APART = 9999;
    private static final int CHAIN_HOURS = 24;

    private final Zone zone;
    private final Marks marks;
    private final Texts texts;
    private final Law law;
    private final Incidents incidents;
    private final Shooting shooting;
    private final Plans plans;
    private final Papers papers;
    private final Sheet[] sheets;

    public TruceLine() {
        zone = new Zone();
        marks = new Marks(zone);
        texts = new Texts();
        law = new Law(zone, marks, texts);
        incidents = new Incidents(marks);
        shooting = new Shooting(marks, law);
        plans = new Plans(zone, marks);
        papers = new Papers();
        sheets = new Sheet[] {new Sheet(), new Sheet(), new Sheet(), new Sheet()};
    }

    // ---- the zone

    public int height(int cell, int n) {
        if (!isCell(cell) || !isWithin(n, 0, MOST_HEIGHT)) return BAD;
        int was = zone.heightOf[cell];
        zone.heightOf[cell] = n;
        return was;
    }

    public int line(int row, int at) {
        if (!isWithin(row, 0, ROWS - 1) || !isWithin(at, 0, COLUMNS)) return BAD;
        int was = zone.lineOf[row];
        zone.lineOf[row] = at;
        return was;
    }

    public int set(int what, int n) {
        if (what == 0 && isWithin(n, 0, MOST_WIDTH)) {
            int was = zone.width;
            zone.width = n;
            return was;
        }
        if (what == 1 && isWithin(n, 0, MOST_MIST)) {
            int was = zone.mist;
            zone.mist = n;
            return was;
        }
        return BAD;
    }

    public int cellTold(int cell, int what) {
        if (!isCell(cell)) return BAD;
        switch (what) {
            case 0: return zone.heightOf[cell];
            case 1: return zone.sideOf(cell);
            case 2: return zone.farOf(cell);
            case 3: return bit(zone.isStrip(cell));
            default: return BAD;
        }
    }

    // ---- marks

    public int mark(int kind, int side, int cell, int size) {
        if (!isKind(kind) || !isSide(side) || !isCell(cell)) return BAD;
        if (!isWithin(size, 0, MOST_SIZE)) return BAD;
        return marks.add(kind, side, cell, size);
    }

    public int walk(int mark, int cell) {
        if (!marks.has(mark) || !isCell(cell)) return BAD;
        Mark one = marks.row[mark];
        if (!Mark.isUnder(one.kind, Mark.PATROL)) return UNLIKE;
        return one.walkBy(cell);
    }

    public int gone(int mark, int is) {
        if (!marks.has(mark) || !isBit(is)) return BAD;
        Mark one = marks.row[mark];
        int was = bit(one.isGone);
        one.isGone = is == 1;
        return was;
    }

    public int markTold(int mark, int what) {
        if (!marks.has(mark)) return BAD;
        Mark one = marks.row[mark];
        switch (what) {
            case 0: return one.kind;
            case 1: return one.side;
            case 2: return one.size;
            case 3: return bit(one.isGone);
            case 4: return one.ear;
            case 5: return bit(one.isHeld);
            default: return BAD;
        }
    }

    public int at(int mark, int hour) {
        if (!marks.has(mark) || !isHour(hour)) return BAD;
        return marks.row[mark].cellIn(hour);
    }

    public int sight(int mark, int hour) {
        if (!marks.has(mark) || !isHour(hour)) return BAD;
        return marks.sightIn(mark, hour);
    }

    public long sees(int mark, int hour) {
        if (!marks.has(mark) || !isHour(hour)) return NO;
        return marks.seenBy(mark, hour);
    }

    public long view(int side, int hour) {
        if (!isSide(side) || !isHour(hour)) return NO;
        return marks.seenBySide(side, hour);
    }

    // ---- the truce

    public int feed(int n, long bytes) {
        if (!isWithin(n, 1, 8)) return BAD;
        return texts.feedTape(n, bytes);
    }

    public int text() {
        return texts.readTape();
    }

    public int force(int which, int text) {
        if (!isWithin(which, 0, TRUCE) || !texts.has(text)) return BAD;
        int was = texts.forced[which];
        texts.forced[which] = text;
        return was;
    }

    public long says(int mark, int hour, int part, int heard) {
        if (!marks.has(mark) || !isHour(hour)) return NO;
        if (!isWithin(part, BREACH_PART, SHOOT_PART) || !isWithin(heard, 0, MOST_HEARD)) return NO;
        return law.valueOf(mark, hour, part, heard);
    }

    public int breaches(int side, int hour) {
        if ((side != -1 && !isSide(side)) || !isHour(hour)) return BAD;
        return side == -1 ? law.allBreaches(hour) : law.knownBreaches(side, hour);
    }

    public int astray(int hour) {
        return isHour(hour) ? law.allAstray(hour) : BAD;
    }

    public int permit(int person, int from, int to, int since, int until) {
        if (!isWithin(person, 0, MOST_PERSON)) return BAD;
        if (!isWithin(from, 0, ROWS - 1) || !isWithin(to, from, ROWS - 1)) return BAD;
        if (!isHour(since) || !isHour(until) || until <= since) return BAD;
        return papers.addPermit(person, from, to, since, until);
    }

    public int may(int person, int cell, int hour) {
        if (!isWithin(person, 0, MOST_PERSON) || !isCell(cell) || !isHour(hour)) return BAD;
        return papers.leastPermit(person, cell / COLUMNS, hour);
    }

    // ---- incidents

    public int doing(int sort, int cell, int hour) {
        if (!isWithin(sort, Incidents.GUN_SHOT, Incidents.THUNDER)) return BAD;
        if (!isCell(cell) || !isHour(hour)) return BAD;
        return incidents.addDoing(sort, cell, hour);
    }

    public int report(int mark, int hour, int how, int yes) {
        if (!marks.has(mark) || !isHour(hour) || !isBit(how) || !isBit(yes)) return BAD;
        return incidents.addReport(mark, hour, how, yes == 1);
    }

    public int takeBack(int report) {
        if (!isWithin(report, 0, incidents.reports - 1)) return BAD;
        return incidents.takeReportBack(report);
    }

    public int lets(int report, int doing) {
        if (!isWithin(report, 0, incidents.reports - 1)) return BAD;
        if (!isWithin(doing, 0, incidents.doings - 1)) return BAD;
        return bit(incidents.isLet(doing, report));
    }

    public int left() {
        return incidents.allLeft();
    }

    public int worst(int mark, int hour, int how) {
        if (!marks.has(mark) || marks.row[mark].isGone) return BAD;
        if (!isHour(hour) || !isBit(how)) return BAD;
        return incidents.worstOf(mark, hour, how, incidents.allLeft());
    }

    public int look(int hour) {
        return isHour(hour) ? incidents.bestLook(hour, incidents.allLeft()) : BAD;
    }

    public int finding(int doing, int reports, int findings) {
        if (!isWithin(doing, 0, incidents.doings - 1)) return BAD;
        if (!isSetOf(reports, incidents.reports) || !isSetOf(findings, incidents.findings)) return BAD;
        return incidents.addFinding(doing, reports, findings);
    }

    public int standing() {
        return incidents.allStanding();
    }

    // ---- shots

    public int hold(int mark, int is) {
        if (!marks.has(mark) || !isBit(is)) return BAD;
        Mark one = marks.row[mark];
        int was = bit(one.isHeld);
        one.isHeld = is == 1;
        return was;
    }

    public int shots(int mark, int hour, int n) {
        if (!marks.isOfArmy(mark) || !isHour(hour) || !isWithin(n, 0, CHAIN_HOURS)) return BAD;
        return shooting.shotsBehind(mark, hour, n, marks.allHeld());
    }

    public int calm(int mark, int hour, int told, int n) {
        if (!marks.isOfArmy(mark) || !isHour(hour)) return BAD;
        if (!isSetOf(told, marks.count) || Integer.bitCount(told) > Shooting.MOST_TOLD) return BAD;
        if (!isWithin(n, 1, CHAIN_HOURS)) return BAD;
        return shooting.leastCalm(mark, hour, told, n);
    }

    // ---- cover, guns drawn back

    public int list(int cell) {
        return isCell(cell) ? plans.addCell(cell) : BAD;
    }

    public int cover(int n, int hour, int what) {
        if (!isWithin(n, 0, Plans.MOST_CELLS) || !isHour(hour) || !isBit(what)) return BAD;
        if (n > plans.listCount) return NONE;
        int chosen = plans.bestPosts(n, hour);
        return what == 0 ? chosen : Long.bitCount(plans.seenFromAll(chosen));
    }

    public int drawBack(int guns, int apart, int i) {
        if (!plans.canDraw(guns) || !isWithin(apart, 0, MOST_APART)) return BAD;
        return plans.drawnAt(guns, apart, i);
    }

    public int strength(int side) {
        return isSide(side) ? plans.strengthOf(side) : BAD;
    }

    // ---- protests, lists

    public int protest(int side, int hour, int about) {
        if (!isArmy(side) || !isHour(hour) || !isWithin(about, 0, hour)) return BAD;
        return papers.addProtest(side, hour, about);
    }

    public int answer(int protest, int hour) {
        if (!papers.hasProtest(protest) || !isHour(hour)) return BAD;
        if (hour < papers.hourOf[protest]) return BAD;
        return papers.answerProtest(protest, hour);
    }

    public int late(int hour) {
        return isHour(hour) ? papers.allLate(hour) : BAD;
    }

    public int blame(int protest) {
        return papers.hasProtest(protest) ? papers.leastBlamer(protest) : BAD;
    }

    public int listed(int side, int person, int is) {
        if (!isArmy(side) || !isWithin(person, 0, MOST_LISTED) || !isBit(is)) return BAD;
        return papers.putListed(side, person, is == 1);
    }

    public long alone(int side) {
        switch (side) {
            case -1: return papers.lists[0] ^ papers.lists[1];
            case 0: return papers.lists[0] & ~papers.lists[1];
            case 1: return papers.lists[1] & ~papers.lists[0];
            default: return NO;
        }
    }

    public int count(int what) {
        switch (what) {
            case 0: return marks.count;
            case 1: return papers.permits;
            case 2: return incidents.doings;
            case 3: return incidents.reports;
            case 4: return incidents.findings;
            case 5: return papers.protests;
            case 6: return plans.listCount;
            case 7: return texts.count;
            case 8: return texts.tapeSize;
            case 9: return texts.forced[0];
            case 10: return texts.forced[1];
            case 11: return texts.forced[TRUCE];
            default: return BAD;
        }
    }

    // ---- the host

    public int sheet(int sheet, int sort, int n) {
        if (!isSheet(sheet) || !isWithin(sort, Sheet.MISSING, Sheet.INTS)) return BAD;
        if (sort == Sheet.MISSING) return sheets[sheet].become(sort, 0);
        if (n > Sheet.MOST) return BAD;
        if (n < 0) return BELOW;
        return sheets[sheet].become(sort, n);
    }

    public int cell(int sheet, int i, int v) {
        if (!isSheet(sheet)) return BAD;
        Sheet one = sheets[sheet];
        if (one.isMissing()) return NOTHING;
        if (!one.has(i)) return OUTSIDE;
        return one.put(i, v);
    }

    public int copy(int sheet, int i, int other, int j, int n) {
        if (!isSheet(sheet) || !isSheet(other)) return BAD;
        Sheet from = sheets[sheet];
        Sheet to = sheets[other];
        if (from.isMissing() || to.isMissing()) return NOTHING;
        if (from.sort != to.sort) return UNLIKE;
        if (!from.hasRun(i, n) || !to.hasRun(j, n)) return OUTSIDE;
        System.arraycopy(from.items, i, to.items, j, n);
        return n;
    }

    public int heights(int row, int sheet, int sort, int from, int n) {
        if (!isWithin(row, 0, ROWS - 1) || !isSheet(sheet)) return BAD;
        if (!isWithin(sort, Sheet.BYTES, Sheet.INTS) || !isWithin(n, 0, COLUMNS)) return BAD;
        Sheet one = sheets[sheet];
        // A missing SHEET passes for every sort, so it is refused only behind UNLIKE.
        if (!one.isMissing() && one.sort != sort) return UNLIKE;
        if (one.isMissing()) return NOTHING;
        return tellHeights(row, one, from, n);
    }

    public int taken(int mark, int k) {
        if (!isKind(k)) return BAD;
        if (!marks.has(mark)) return NOTHING;
        Mark one = marks.row[mark];
        return Mark.isUnder(one.kind, k) ? one.size : UNLIKE;
    }

    private int tellHeights(int row, Sheet sheet, int from, int n) {
        int told = 0;
        for (int column = 0; column < n; column++) {
            int place = from + column;
            if (!sheet.has(place)) return OUTSIDE;
            int height = sheet.items[place];
            if (isWithin(height, 0, MOST_HEIGHT)) {
                zone.heightOf[row * COLUMNS + column] = height;
                told++;
            }
        }
        return told;
    }

    private static boolean isWithin(int n, int least, int greatest) {
        return n >= least && n <= greatest;
    }

    private static boolean isCell(int n) {
        return isWithin(n, 0, CELLS - 1);
    }

    private static boolean isHour(int n) {
        return isWithin(n, 0, HOURS - 1);
    }

    private static boolean isSide(int n) {
        return isWithin(n, 0, WATCHERS);
    }

    private static boolean isArmy(int n) {
        return n == 0 || n == 1;
    }

    private static boolean isBit(int n) {
        return n == 0 || n == 1;
    }

    private static boolean isKind(int n) {
        return isWithin(n, Mark.PLAIN, Mark.BATTERY);
    }

    private static boolean isSheet(int n) {
        return isWithin(n, 0, 3);
    }

    /** Whether bits tell only things below count, which is 24 at most. */
    private static boolean isSetOf(int bits, int count) {
        return bits >= 0 && bits < 1 << count;
    }

    private static boolean isIn(int bits, int i) {
        return (bits >> i & 1) != 0;
    }

    private static int bit(boolean is) {
        return is ? 1 : 0;
    }

    private static int apartOf(int a, int b) {
        return Math.max(Math.abs(a % COLUMNS - b % COLUMNS), Math.abs(a / COLUMNS - b / COLUMNS));
    }

    private static boolean isNight(int hour) {
        int ofDay = hour % 24;
        return ofDay < 6 || ofDay > 19;
    }

    /** THE ZONE: its HEIGHTS, THE LINE, THE STRIP and MIST. */
    private static final class Zone {
        final int[] heightOf = new int[CELLS];
        final int[] lineOf = new int[ROWS];
        int width = 1;
        int mist;

        Zone() {
            Arrays.fill(lineOf, 4);
        }

        int sideOf(int cell) {
            return cell % COLUMNS < lineOf[cell / COLUMNS] ? 0 : 1;
        }

        int farOf(int cell) {
            int behind = cell % COLUMNS - lineOf[cell / COLUMNS];
            return behind < 0 ? -behind - 1 : behind;
        }

        boolean isStrip(int cell) {
            return farOf(cell) < width;
        }

        int sightFrom(int cell, int kind, int hour) {
            return Math.max(0, Mark.sightOf(kind, heightOf[cell], isNight(hour)) - mist);
        }

        boolean canSee(int from, int to, int sight) {
            int column = from % COLUMNS;
            int row = from / COLUMNS;
            int columns = to % COLUMNS - column;
            int rows = to / COLUMNS - row;
            int n = Math.max(Math.abs(columns), Math.abs(rows));
            if (n > sight) return false;
            int top = Math.max(heightOf[from], heightOf[to]);
            for (int k = 1; k < n; k++) {
                int between = (row + rows * k / n) * COLUMNS + column + columns * k / n;
                if (heightOf[between] > top) return false;
            }
            return true;
        }

        long seenFrom(int cell, int sight) {
            long seen = 0;
            for (int to = 0; to < CELLS; to++) {
                if (canSee(cell, to, sight)) seen |= 1L << to;
            }
            return seen;
        }
    }

    /** One MARK. The row of MARKS is made ahead, so that none in it is ever null. */
    private static final class Mark {
        static final int PLAIN = 0, POST = 1, GUN = 2, PATROL = 3, STEALTH = 4, BATTERY = 5;
        private static final int[] UNDER = {NONE, PLAIN, PLAIN, POST, PATROL, GUN};
        private static final int[] EARS = {0, 4, 0, 5, 10, 2};
        private static final int MOST_STEPS = 6;

        int kind;
        int side;
        int size;
        int ear;
        boolean isGone;
        boolean isHeld;
        private int home;
        private final int[] steps = new int[MOST_STEPS];
        private int stepCount;

        static boolean isUnder(int kind, int other) {
            int one = kind;
            // A KIND has fewer KINDS above it than there are KINDS.
            for (int n = 0; n < UNDER.length && isKind(one); n++) {
                if (one == other) return true;
                one = UNDER[one];
            }
            return false;
        }

        static int sightOf(int kind, int height, boolean night) {
            int postByDay = height >= 5 ? 4 : 3;
            int post = night ? postByDay - 1 : postByDay;
            switch (kind) {
                case POST: return post;
                case PATROL: return post - 1;
                case STEALTH: return night ? postByDay : post - 1;
                case BATTERY: return 1;
                default: return 0;
            }
        }

        void become(int kind, int side, int cell, int size) {
            this.kind = kind;
            this.side = side;
            this.home = cell;
            this.size = size;
            ear = isKind(kind) ? EARS[kind] : 0;
        }

        int walkBy(int cell) {
            if (stepCount >= MOST_STEPS) return FULL;
            steps[stepCount++] = cell;
            return stepCount;
        }

        int cellIn(int hour) {
            return stepCount > 0 ? steps[hour % stepCount] : home;
        }
    }

    /** All MARKS, and what they see and hear. */
    private static final class Marks {
        private static final int MOST = 16;

        final Mark[] row = new Mark[MOST];
        int count;
        private final Zone zone;

        Marks(Zone zone) {
            this.zone = zone;
            for (int m = 0; m < MOST; m++) row[m] = new Mark();
        }

        int add(int kind, int side, int cell, int size) {
            if (count >= MOST) return FULL;
            row[count].become(kind, side, cell, size);
            return count++;
        }

        boolean has(int n) {
            return isWithin(n, 0, count - 1);
        }

        boolean isOfArmy(int n) {
            return has(n) && isArmy(row[n].side);
        }

        int allHeld() {
            int held = 0;
            for (int m = 0; m < count; m++) held |= bit(row[m].isHeld) << m;
            return held;
        }

        int sightIn(int mark, int hour) {
            return zone.sightFrom(row[mark].cellIn(hour), row[mark].kind, hour);
        }

        boolean canSee(int mark, int cell, int hour) {
            int from = row[mark].cellIn(hour);
            return zone.canSee(from, cell, zone.sightFrom(from, row[mark].kind, hour));
        }

        long seenBy(int mark, int hour) {
            if (row[mark].isGone) return 0;
            return zone.seenFrom(row[mark].cellIn(hour), sightIn(mark, hour));
        }

        long seenBySide(int side, int hour) {
            long seen = 0;
            for (int m = 0; m < count; m++) {
                if (row[m].side == side) seen |= seenBy(m, hour);
            }
            return seen;
        }

        /** Whether a MARK, where it is in an HOUR, hears what is so loud in a CELL. */
        boolean canHear(int mark, int hour, int cell, int loudness) {
            return apartOf(row[mark].cellIn(hour), cell) <= row[mark].ear + loudness;
        }
    }

    /** Reads THE TAPE as a TEXT, and writes its parts with each operator behind what it works on. */
    private static final class Reader {
        static final int STOP = 0, NUMBER = 1, WRONG = 2;
        static final int SIZE = 3, FAR = 4, STRIP = 5, HOUR = 6, KIND = 7, HEARD = 8;
        static final int BREACH = 9, SHOOT = 10, OR = 11, AND = 12, NOT = 13, NEGATIVE = 14;
        /** Behind the steps of a part; no NUMBER and no other step is like it. */
        static final int LAST = -1;
        private static final int MOST_OPEN = 5, MOST_DIGITS = 4;

        private final int[] tape;
        private int size;
        private final int[] tokens;
        private final int[] places;
        private int tokenCount;
        private int next;
        private int fault;
        private int[] code;
        private int codeSize;

        /** The first code is given so that there is always one to write to. */
        Reader(int[] tape, int[] firstCode) {
            this.tape = tape;
            code = firstCode;
            tokens = new int[tape.length + 1];
            places = new int[tape.length + 1];
        }

        static boolean isName(int token) {
            return isWithin(token, SIZE, HEARD);
        }

        /** The place of the FAULT, or NONE. */
        int read(int tapeSize, int[] breach, int[] shoot) {
            size = Math.min(tapeSize, tape.length);
            splitTape();
            next = 0;
            fault = NONE;
            readPart(BREACH, breach);
            readPart(SHOOT, shoot);
            expect(STOP);
            return fault;
        }

        private void splitTape() {
            tokenCount = 0;
            int end = 0;
            for (int place = 0; place < size; place++) {
                boolean blank = tape[place] == ' ' || tape[place] == '\n';
                if (place < end || blank) continue;
                end = endOf(place);
                places[tokenCount] = place;
                tokens[tokenCount++] = tokenOf(place, end);
            }
            places[tokenCount] = size;
            tokens[tokenCount] = STOP;
        }

        private int endOf(int place) {
            int end = place + 1;
            if (isLetter(tape[place])) {
                while (end < size && isLetter(tape[end])) end++;
            } else if (isDigit(tape[place])) {
                while (end < size && isDigit(tape[end])) end++;
            }
            return end;
        }

        private int tokenOf(int place, int end) {
            int first = tape[place];
            if (isLetter(first)) return wordOf(place, end);
            if (isDigit(first)) return end - place <= MOST_DIGITS ? NUMBER : WRONG;
            boolean bracket = first == '(' || first == ')' || first == ';';
            boolean operator = first == '+' || first == '-' || first == '*' || first == '<' || first == '=';
            return bracket || operator ? first : WRONG;
        }

        private int wordOf(int place, int end) {
            if (isSpelt(place, end, "size")) return SIZE;
            if (isSpelt(place, end, "far")) return FAR;
            if (isSpelt(place, end, "strip")) return STRIP;
            if (isSpelt(place, end, "hour")) return HOUR;
            if (isSpelt(place, end, "kind")) return KIND;
            if (isSpelt(place, end, "heard")) return HEARD;
            if (isSpelt(place, end, "breach")) return BREACH;
            if (isSpelt(place, end, "shoot")) return SHOOT;
            if (isSpelt(place, end, "or")) return OR;
            if (isSpelt(place, end, "and")) return AND;
            if (isSpelt(place, end, "not")) return NOT;
            return WRONG;
        }

        private boolean isSpelt(int place, int end, String word) {
            if (end - place != word.length()) return false;
            for (int i = 0; i < word.length(); i++) {
                if (tape[place + i] != word.charAt(i)) return false;
            }
            return true;
        }

        private int numberAt(int place) {
            int number = 0;
            for (int i = place; i < size && isDigit(tape[i]); i++) number = number * 10 + tape[i] - '0';
            return number;
        }

        private static boolean isLetter(int b) {
            return b >= 'a' && b <= 'z';
        }

        private static boolean isDigit(int b) {
            return b >= '0' && b <= '9';
        }

        private void readPart(int key, int[] into) {
            code = into;
            codeSize = 0;
            expect(key);
            readOr(0);
            expect(';');
            code[codeSize] = LAST;
        }

        private void readOr(int open) {
            readAnd(open);
            for (int n = 0; n < tokenCount && isNext(OR); n++) {
                skipToken();
                readAnd(open);
                write(-OR);
            }
        }

        private void readAnd(int open) {
            readNot(open);
            for (int n = 0; n < tokenCount && isNext(AND); n++) {
                skipToken();
                readNot(open);
                write(-AND);
            }
        }

        private void readNot(int open) {
            if (!isNext(NOT)) {
                readComparison(open);
            } else if (open < MOST_OPEN) {
                skipToken();
                readNot(open + 1);
                write(-NOT);
            } else {
                fail();
            }
        }

        private void readComparison(int open) {
            readSum(open);
            if (isNext('<') || isNext('=')) {
                int sign = tokens[next];
                skipToken();
                readSum(open);
                write(-sign);
            }
        }

        private void readSum(int open) {
            readTerm(open);
            for (int n = 0; n < tokenCount && (isNext('+') || isNext('-')); n++) {
                int sign = tokens[next];
                skipToken();
                readTerm(open);
                write(-sign);
            }
        }

        private void readTerm(int open) {
            readOne(open);
            for (int n = 0; n < tokenCount && isNext('*'); n++) {
                skipToken();
                readOne(open);
                write(-'*');
            }
        }

        private void readOne(int open) {
            if (fault != NONE) return;
            int token = tokens[next];
            if (token == NUMBER) {
                write(numberAt(places[next]));
                skipToken();
            } else if (isName(token)) {
                write(-token);
                skipToken();
            } else if (token == '-' && open < MOST_OPEN) {
                skipToken();
                readOne(open + 1);
                write(-NEGATIVE);
            } else if (token == '(' && open < MOST_OPEN) {
                skipToken();
                readOr(open + 1);
                expect(')');
            } else {
                fail();
            }
        }

        private boolean isNext(int token) {
            return fault == NONE && tokens[next] == token;
        }

        private void expect(int token) {
            if (isNext(token)) skipToken();
            else fail();
        }

        private void skipToken() {
            if (next < tokenCount) next++;
        }

        private void fail() {
            // What is read behind the first FAULT counts no more.
            if (fault == NONE) fault = places[next];
        }

        /** A NUMBER as it is; NAMES and operators as their token below 0. */
        private void write(int step) {
            // The place behind the last step is kept for LAST.
            if (codeSize < code.length - 1) code[codeSize++] = step;
        }
    }

    /** THE TAPE, the TEXTS that were read from it, and which of them are in force. */
    private static final class Texts {
        private static final int MOST = 6, PARTS = 2, MOST_BYTES = 160, FAULTY = -100;
        private static final String FIRST = "breach strip and 0 < size or far < 0 ; shoot 0 < heard ;";

        final int[] forced = new int[TRUCE + 1];
        int count;
        int tapeSize;
        private final int[] tape = new int[MOST_BYTES];
        private final int[][] codes = new int[MOST * PARTS][MOST_BYTES + 1];
        private final int[] stack = new int[MOST_BYTES];
        private final Reader reader = new Reader(tape, codes[0]);

        Texts() {
            tapeSize = Math.min(FIRST.length(), MOST_BYTES);
            for (int i = 0; i < tapeSize; i++) tape[i] = FIRST.charAt(i);
            readTape();
        }

        boolean has(int n) {
            return isWithin(n, 0, count - 1);
        }

        int feedTape(int n, long bytes) {
            if (tapeSize + n > MOST_BYTES) return FULL;
            for (int i = 0; i < n; i++) tape[tapeSize++] = (int) (bytes >>> 8 * i & 255);
            return tapeSize;
        }

        int readTape() {
            if (count >= MOST) return FULL;
            int row = count * PARTS;
            int fault = reader.read(tapeSize, codes[row + BREACH_PART], codes[row + SHOOT_PART]);
            tapeSize = 0;
            return fault == NONE ? count++ : FAULTY - fault;
        }

        int valueOf(int text, int part, int[] names) {
            int[] code = codes[text * PARTS + part];
            int top = 0;
            for (int i = 0; i < code.length && code[i] != Reader.LAST; i++) {
                int step = code[i];
                if (step >= 0 || Reader.isName(-step)) {
                    if (top < stack.length) stack[top++] = step >= 0 ? step : names[-step - Reader.SIZE];
                } else if (step == -Reader.NOT || step == -Reader.NEGATIVE) {
                    if (top > 0) stack[top - 1] = ofOne(-step, stack[top - 1]);
                } else if (top > 1) {
                    top--;
                    stack[top - 1] = ofTwo(-step, stack[top - 1], stack[top]);
                }
            }
            return top > 0 ? stack[top - 1] : 0;
        }

        private static int ofOne(int operator, int a) {
            return operator == Reader.NOT ? bit(a == 0) : -a;
        }

        private static int ofTwo(int operator, int a, int b) {
            switch (operator) {
                case Reader.OR: return bit(a != 0 || b != 0);
                case Reader.AND: return bit(a != 0 && b != 0);
                case '<': return bit(a < b);
                case '=': return bit(a == b);
                case '+': return a + b;
                case '-': return a - b;
                default: return a * b;
            }
        }
    }

    /** What the TEXTS in force say of the MARKS. */
    private static final class Law {
        private final Zone zone;
        private final Marks marks;
        private final Texts texts;
        private final int[] names = new int[Reader.HEARD - Reader.SIZE + 1];

        Law(Zone zone, Marks marks, Texts texts) {
            this.zone = zone;
            this.marks = marks;
            this.texts = texts;
        }

        int valueOf(int mark, int hour, int part, int heard) {
            Mark one = marks.row[mark];
            int cell = one.cellIn(hour);
            tellName(Reader.SIZE, one.size);
            tellName(Reader.FAR, signedFar(one, cell));
            tellName(Reader.STRIP, bit(zone.isStrip(cell)));
            tellName(Reader.HOUR, hour);
            tellName(Reader.KIND, one.kind);
            tellName(Reader.HEARD, part == BREACH_PART ? 0 : heard);
            boolean byTruce = part == BREACH_PART || one.side == WATCHERS;
            return texts.valueOf(texts.forced[byTruce ? TRUCE : one.side], part, names);
        }

        int allBreaches(int hour) {
            int found = 0;
            for (int m = 0; m < marks.count; m++) {
                boolean is = !marks.row[m].isGone && valueOf(m, hour, BREACH_PART, 0) != 0;
                found |= bit(is) << m;
            }
            return found;
        }

        int knownBreaches(int side, int hour) {
            int all = allBreaches(hour);
            long seen = marks.seenBySide(side, hour);
            int known = 0;
            for (int m = 0; m < marks.count; m++) {
                Mark one = marks.row[m];
                boolean inView = (seen >> one.cellIn(hour) & 1) != 0;
                if (isIn(all, m) && one.side != side && inView) known |= 1 << m;
            }
            return known;
        }

        int allAstray(int hour) {
            int found = 0;
            for (int m = 0; m < marks.count; m++) {
                Mark one = marks.row[m];
                if (!one.isGone && isOnOtherSide(one, one.cellIn(hour))) found |= 1 << m;
            }
            return found;
        }

        private void tellName(int name, int value) {
            names[name - Reader.SIZE] = value;
        }

        private int signedFar(Mark one, int cell) {
            int far = zone.farOf(cell);
            return isOnOtherSide(one, cell) ? -1 - far : far;
        }

        private boolean isOnOtherSide(Mark one, int cell) {
            return isArmy(one.side) && zone.sideOf(cell) != one.side;
        }
    }

    /** DOINGS, REPORTS of them, LOOKS and FINDINGS. */
    private static final class Incidents {
        static final int GUN_SHOT = 0, MINE = 1, THUNDER = 3;
        private static final int[] LOUDNESS = {4, 3, 1, 99};
        private static final int MOST_DOINGS = 12, MOST_REPORTS = 24, MOST_FINDINGS = 10;

        int doings;
        int reports;
        int findings;
        private final Marks marks;
        private final int[] sortOf = new int[MOST_DOINGS];
        private final int[] cellOf = new int[MOST_DOINGS];
        private final int[] hourOf = new int[MOST_DOINGS];
        private final int[] teller = new int[MOST_REPORTS];
        private final int[] hourTold = new int[MOST_REPORTS];
        private final int[] howTold = new int[MOST_REPORTS];
        private final boolean[] yesTold = new boolean[MOST_REPORTS];
        private int takenBack;
        private final int[] doingSaid = new int[MOST_FINDINGS];
        private final int[] leanReports = new int[MOST_FINDINGS];
        private final int[] leanFindings = new int[MOST_FINDINGS];

        Incidents(Marks marks) {
            this.marks = marks;
        }

        int addDoing(int sort, int cell, int hour) {
            if (doings >= MOST_DOINGS) return FULL;
            sortOf[doings] = sort;
            cellOf[doings] = cell;
            hourOf[doings] = hour;
            return doings++;
        }

        int addReport(int mark, int hour, int how, boolean yes) {
            if (reports >= MOST_REPORTS) return FULL;
            teller[reports] = mark;
            hourTold[reports] = hour;
            howTold[reports] = how;
            yesTold[reports] = yes;
            return reports++;
        }

        int addFinding(int doing, int onReports, int onFindings) {
            if (findings >= MOST_FINDINGS) return FULL;
            doingSaid[findings] = doing;
            leanReports[findings] = onReports;
            leanFindings[findings] = onFindings;
            return findings++;
        }

        int takeReportBack(int report) {
            if (isIn(takenBack, report)) return STATE;
            takenBack |= 1 << report;
            return reports - Integer.bitCount(takenBack);
        }

        boolean isLet(int doing, int report) {
            boolean noticed = isNoticed(doing, teller[report], hourTold[report], howTold[report]);
            return noticed == yesTold[report];
        }

        int allLeft() {
            int found = 0;
            for (int d = 0; d < doings; d++) found |= bit(isLetByAll(d, ~takenBack)) << d;
            return found;
        }

        int worstOf(int mark, int hour, int how, int left) {
            int yes = 0;
            for (int d = 0; d < doings; d++) {
                if (isIn(left, d) && isNoticed(d, mark, hour, how)) yes++;
            }
            return Math.max(yes, Integer.bitCount(left) - yes);
        }

        int bestLook(int hour, int left) {
            int best = NONE;
            int least = MOST_DOINGS + 1;
            for (int m = 0; m < marks.count; m++) {
                for (int how = EAR; how <= EYE && !marks.row[m].isGone; how++) {
                    int worst = worstOf(m, hour, how, left);
                    if (worst < least) {
                        least = worst;
                        best = 2 * m + how;
                    }
                }
            }
            return best;
        }

        int allStanding() {
            int found = 0;
            for (int f = 0; f < findings; f++) {
                // A FINDING leans on lesser ones alone, so all of them are settled by now.
                boolean leansWell = (leanFindings[f] & ~found) == 0 && (leanReports[f] & takenBack) == 0;
                if (leansWell && isLetByAll(doingSaid[f], leanReports[f])) found |= 1 << f;
            }
            return found;
        }

        private boolean isLetByAll(int doing, int told) {
            for (int r = 0; r < reports; r++) {
                if (isIn(told, r) && !isLet(doing, r)) return false;
            }
            return true;
        }

        private boolean isNoticed(int doing, int mark, int hour, int how) {
            if (hourOf[doing] != hour || marks.row[mark].isGone) return false;
            if (how == EAR) return marks.canHear(mark, hour, cellOf[doing], LOUDNESS[sortOf[doing]]);
            return sortOf[doing] <= MINE && marks.canSee(mark, cellOf[doing], hour);
        }
    }

    /** SHOTS that call forth SHOTS. */
    private static final class Shooting {
        static final int MOST_TOLD = 6;
        private static final int LOUDNESS = 4;

        private final Marks marks;
        private final Law law;

        Shooting(Marks marks, Law law) {
            this.marks = marks;
            this.law = law;
        }

        int shotsBehind(int mark, int hour, int n, int held) {
            int shot = 1 << mark;
            for (int k = 1; k <= n && shot != 0; k++) shot = calledForth(shot, hour + k, held);
            return shot;
        }

        int leastCalm(int mark, int hour, int told, int n) {
            int held = marks.allHeld();
            int sets = 1 << Integer.bitCount(told);
            int best = NONE;
            int set = 0;
            for (int i = 0; i < sets; i++) {
                // Sets come from the least bits on: a later one is better only with fewer MARKS.
                boolean better = best == NONE || Integer.bitCount(set) < Integer.bitCount(best);
                if (better && shotsBehind(mark, hour, n, held | set) == 0) best = set;
                set = set - told & told;
            }
            return best;
        }

        private int calledForth(int shot, int hour, int held) {
            int next = 0;
            for (int m = 0; m < marks.count; m++) {
                boolean can = isArmy(marks.row[m].side) && !marks.row[m].isGone && !isIn(held, m);
                int heard = can ? heardBy(m, shot, hour) : 0;
                if (heard > 0 && law.valueOf(m, hour, SHOOT_PART, heard) != 0) next |= 1 << m;
            }
            return next;
        }

        private int heardBy(int mark, int shot, int hour) {
            int other = 1 - marks.row[mark].side;
            int heard = 0;
            for (int m = 0; m < marks.count; m++) {
                if (!isIn(shot, m) || marks.row[m].side != other) continue;
                if (marks.canHear(mark, hour, marks.row[m].cellIn(hour - 1), LOUDNESS)) heard++;
            }
            return heard;
        }
    }

    /** COVER by POSTS, and GUNS that are to be DRAWN BACK. */
    private static final class Plans {
        static final int MOST_CELLS = 10;
        private static final int MOST_GUNS = 7;

        int listCount;
        private final Zone zone;
        private final Marks marks;
        private final int[] cells = new int[MOST_CELLS];
        private final long[] seen = new long[MOST_CELLS];
        private final int[] told = new int[MOST_GUNS];
        private int toldCount;
        private final boolean[] isOpen = new boolean[1 << MOST_GUNS];

        Plans(Zone zone, Marks marks) {
            this.zone = zone;
            this.marks = marks;
        }

        int addCell(int cell) {
            if (listCount >= MOST_CELLS) return FULL;
            cells[listCount++] = cell;
            return listCount;
        }

        int bestPosts(int n, int hour) {
            lookFromAll(hour);
            int best = 0;
            int most = -1;
            for (int set = 0; set < 1 << listCount; set++) {
                if (Integer.bitCount(set) != n) continue;
                int many = Long.bitCount(seenFromAll(set));
                if (many > most) {
                    most = many;
                    best = set;
                }
            }
            return best;
        }

        /** What is seen in the HOUR for which bestPosts was asked last. */
        long seenFromAll(int set) {
            long all = 0;
            for (int i = 0; i < listCount; i++) {
                if (isIn(set, i)) all |= seen[i];
            }
            return all;
        }

        private void lookFromAll(int hour) {
            for (int i = 0; i < listCount; i++) {
                seen[i] = zone.seenFrom(cells[i], zone.sightFrom(cells[i], Mark.POST, hour));
            }
        }

        int strengthOf(int side) {
            int sum = 0;
            for (int m = 0; m < marks.count; m++) {
                if (isGunHere(m) && marks.row[m].side == side) sum += marks.row[m].size;
            }
            return sum;
        }

        boolean canDraw(int bits) {
            if (!isSetOf(bits, marks.count) || Integer.bitCount(bits) > MOST_GUNS) return false;
            for (int m = 0; m < marks.count; m++) {
                if (isIn(bits, m) && !(isGunHere(m) && isArmy(marks.row[m].side))) return false;
            }
            return true;
        }

        /** The i-th of THE ORDER, or for i = -1 how many; bits are such as canDraw lets. */
        int drawnAt(int bits, int apart, int i) {
            tellGuns(bits);
            openSets(apart);
            if (!isOpen[0] || !isWithin(i, -1, toldCount - 1)) return NONE;
            if (i == -1) return toldCount;
            int drawn = 0;
            int last = 0;
            for (int step = 0; step <= i; step++) {
                last = nextDrawn(drawn);
                if (last == NONE) return NONE;
                drawn |= 1 << last;
            }
            return told[last];
        }

        private boolean isGunHere(int m) {
            return Mark.isUnder(marks.row[m].kind, Mark.GUN) && !marks.row[m].isGone;
        }

        private void tellGuns(int bits) {
            toldCount = 0;
            for (int m = 0; m < marks.count && toldCount < MOST_GUNS; m++) {
                if (isIn(bits, m)) told[toldCount++] = m;
            }
        }

        /** Open is a set of DRAWN ones, if it is fair and the others can follow one by one. */
        private void openSets(int apart) {
            int lead = strengthOf(0) - strengthOf(1);
            int all = (1 << toldCount) - 1;
            // What a set needs to know of sets with more ones in them stands at greater numbers.
            for (int drawn = all; drawn >= 0; drawn--) {
                boolean fair = Math.abs(lead - leadOf(drawn)) <= apart;
                isOpen[drawn] = fair && (drawn == all || nextDrawn(drawn) != NONE);
            }
        }

        /** By how much SIDE 0 is stronger than SIDE 1 in these alone. */
        private int leadOf(int drawn) {
            int lead = 0;
            for (int t = 0; t < toldCount; t++) {
                Mark one = marks.row[told[t]];
                if (isIn(drawn, t)) lead += one.side == 0 ? one.size : -one.size;
            }
            return lead;
        }

        private int nextDrawn(int drawn) {
            for (int t = 0; t < toldCount; t++) {
                if (!isIn(drawn, t) && isOpen[drawn | 1 << t]) return t;
            }
            return NONE;
        }
    }

    /** What is kept on paper: PERMITS, PROTESTS, LISTS. */
    private static final class Papers {
        private static final int MOST_PERMITS = 12, MOST_PROTESTS = 20, PATIENCE = 48;

        int permits;
        int protests;
        final int[] hourOf = new int[MOST_PROTESTS];
        final long[] lists = new long[2];
        private final int[] person = new int[MOST_PERMITS];
        private final int[] from = new int[MOST_PERMITS];
        private final int[] to = new int[MOST_PERMITS];
        private final int[] since = new int[MOST_PERMITS];
        private final int[] until = new int[MOST_PERMITS];
        private final int[] sideOf = new int[MOST_PROTESTS];
        private final int[] aboutOf = new int[MOST_PROTESTS];
        private final int[] answeredIn = new int[MOST_PROTESTS];

        int addPermit(int who, int fromRow, int toRow, int sinceHour, int untilHour) {
            if (permits >= MOST_PERMITS) return FULL;
            person[permits] = who;
            from[permits] = fromRow;
            to[permits] = toRow;
            since[permits] = sinceHour;
            until[permits] = untilHour;
            return permits++;
        }

        int leastPermit(int who, int row, int hour) {
            for (int p = 0; p < permits; p++) {
                boolean place = row >= from[p] && row <= to[p];
                boolean time = hour >= since[p] && hour < until[p];
                if (person[p] == who && place && time) return p;
            }
            return NONE;
        }

        int addProtest(int side, int hour, int about) {
            if (protests >= MOST_PROTESTS) return FULL;
            sideOf[protests] = side;
            hourOf[protests] = hour;
            aboutOf[protests] = about;
            answeredIn[protests] = NONE;
            return protests++;
        }

        boolean hasProtest(int n) {
            return isWithin(n, 0, protests - 1);
        }

        int answerProtest(int protest, int hour) {
            if (answeredIn[protest] != NONE) return STATE;
            answeredIn[protest] = hour;
            return hour - hourOf[protest];
        }

        int allLate(int hour) {
            int found = 0;
            for (int p = 0; p < protests; p++) {
                boolean answered = answeredIn[p] != NONE && answeredIn[p] <= hour;
                if (hour - hourOf[p] >= PATIENCE && !answered) found |= 1 << p;
            }
            return found;
        }

        int leastBlamer(int protest) {
            for (int p = 0; p < protests; p++) {
                if (sideOf[p] != sideOf[protest] && aboutOf[p] == aboutOf[protest]) return p;
            }
            return NONE;
        }

        int putListed(int side, int who, boolean is) {
            long one = 1L << who;
            int was = bit((lists[side] & one) != 0);
            lists[side] = is ? lists[side] | one : lists[side] & ~one;
            return was;
        }
    }

    /** A SHEET: its row is made once and used again by every sort. */
    private static final class Sheet {
        static final int MISSING = -1, BYTES = 0, SHORTS = 1, INTS = 2, MOST = 40;

        int sort = MISSING;
        final int[] items = new int[MOST];
        private int size;

        boolean isMissing() {
            return sort == MISSING;
        }

        boolean has(int i) {
            return isWithin(i, 0, size - 1);
        }

        /** Whether n items stand from i on; a run of none may also begin behind the last one. */
        boolean hasRun(int i, int n) {
            return i >= 0 && isWithin(n, 0, size) && i <= size - n;
        }

        int become(int newSort, int newSize) {
            sort = newSort;
            size = newSize;
            Arrays.fill(items, 0);
            return 1;
        }

        int put(int i, int v) {
            if (sort == BYTES) items[i] = (byte) v;
            else if (sort == SHORTS) items[i] = (short) v;
            else items[i] = v;
            return 1;
        }
    }
}
