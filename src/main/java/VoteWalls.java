import java.util.Arrays;

/** The prison that votes. The document's numbered promises say what each call answers. */
public final class VoteWalls {
    public static final int UNKNOWN = -1, OUTSIDE = -2, STATE = -3, FULL = -4, NONE = -9;
    public static final long LOST = Long.MIN_VALUE;

    private static final int NULL = 1, CAST = 2, INDEX = 3, SIZE = 4;
    private static final int PLAIN = 0, TALL = 1, BULLY = 2;
    private static final int SHEETS = 4, LANES = 3, LONGEST_ROW = 60, NOTHING = -1;
    private static final int MOST_INCHES = 30, MOST_BOARDS = 5, MOST_PRISONERS = 8;
    private static final int SUNDAYS = 50, LAST_SUNDAY = 49, AT_FIRST = -1;
    private static final int MOST_LOCKS = 6, MOST_STRIKES = 6, MOST_READINGS = 8;

    private final Sheet[] sheets = new Sheet[SHEETS];
    private final TextReader reader = new TextReader();
    private final Triples locks = new Triples(MOST_LOCKS);
    private final Triples strikes = new Triples(MOST_STRIKES);
    private final Triples readings = new Triples(MOST_READINGS);
    private final Calendar calendar = new Calendar();
    private final Weeks weeks = new Weeks();
    private Yard site = new Yard();
    private Yard spare = new Yard();
    private int lawNow = 0;
    private int traceNow = 0;
    private int lastFault = 0;

    public VoteWalls() {
        for (int k = 0; k < SHEETS; k++) {
            sheets[k] = new Sheet();
        }
    }

    // ---- 1 the yard

    public int yard(int sheet, int lane, int i, int n) {
        int refusal = refusalOfCells(sheet, lane, i, n);
        if (refusal != 0) {
            return refusal;
        }
        if (!reader.takes(sheets[sheet], i, n, spare)) {
            return -100 - reader.at;
        }
        Yard old = site;
        site = spare;
        spare = old;
        forgetRules();
        return site.prisoners;
    }

    public int ofPrisoner(int p, int what) {
        if (!isPrisoner(p)) {
            return UNKNOWN;
        }
        switch (what) {
            case 0:
                return site.kinds[p];
            case 1:
                return site.places[p];
            case 2:
                return votesOfKind(site.kinds[p]);
            default:
                return OUTSIDE;
        }
    }

    public int law(int v) {
        if (v != 0 && v != 1) {
            return OUTSIDE;
        }
        if (!hasYard()) {
            return STATE;
        }
        int was = lawNow;
        lawNow = v;
        return was;
    }

    public int lock(int b, int from, int to) {
        if (!isBoard(b)) {
            return UNKNOWN;
        }
        if (!isSpan(from, to)) {
            return OUTSIDE;
        }
        int number = locks.add(b, from, to);
        calendar.mark(locks, strikes);
        return number;
    }

    public int unlock(int k) {
        int left = locks.drop(k);
        calendar.mark(locks, strikes);
        return left;
    }

    public int strike(int p, int from, int to) {
        if (!isPrisoner(p)) {
            return UNKNOWN;
        }
        if (!isSpan(from, to)) {
            return OUTSIDE;
        }
        int number = strikes.add(p, from, to);
        calendar.mark(locks, strikes);
        return number;
    }

    public int eat(int k) {
        int left = strikes.drop(k);
        calendar.mark(locks, strikes);
        return left;
    }

    // ---- 2 Sundays

    public int gap(int b, int sunday) {
        if (!isBoard(b)) {
            return UNKNOWN;
        }
        if (!isSundayOrFirst(sunday)) {
            return OUTSIDE;
        }
        reckonAsItIs(sunday);
        return weeks.gapAt(b, sunday);
    }

    public int cellOf(int p, int sunday) {
        if (!isPrisoner(p)) {
            return UNKNOWN;
        }
        if (!isSundayOrFirst(sunday)) {
            return OUTSIDE;
        }
        reckonAsItIs(sunday);
        return whereIs(p, sunday);
    }

    public int wide(int c, int sunday) {
        if (!isCell(c)) {
            return UNKNOWN;
        }
        if (!isSundayOrFirst(sunday)) {
            return OUTSIDE;
        }
        reckonAsItIs(sunday);
        return weeks.widthAt(c, sunday);
    }

    public int with(int p, int sunday) {
        if (!isPrisoner(p)) {
            return UNKNOWN;
        }
        if (!isSundayOrFirst(sunday)) {
            return OUTSIDE;
        }
        reckonAsItIs(sunday);
        return thoseInCells(1 << whereIs(p, sunday), sunday);
    }

    public int meet(int p, int other) {
        if (!isPrisoner(p) || !isPrisoner(other)) {
            return UNKNOWN;
        }
        reckonAsItIs(LAST_SUNDAY);
        return firstTogether(p, other);
    }

    public int rests() {
        if (!hasYard()) {
            return STATE;
        }
        reckonAsItIs(LAST_SUNDAY);
        return weeks.lastMove == LAST_SUNDAY ? NONE : weeks.lastMove + 1;
    }

    // ---- 3 locks, strikes

    public int apart(int p, int other) {
        if (!isPrisoner(p) || !isPrisoner(other) || p == other) {
            return UNKNOWN;
        }
        int best = NONE;
        int sets = 1 << site.boards;
        for (int set = 0; set < sets; set++) {
            if (isFewer(set, best)) {
                reckonWith(set, 0, LAST_SUNDAY);
                if (firstTogether(p, other) == NONE) {
                    best = set;
                }
            }
        }
        return best;
    }

    public int joined(int p, int other) {
        if (!isPrisoner(p) || !isPrisoner(other) || p == other) {
            return UNKNOWN;
        }
        int sets = 1 << site.boards;
        for (int set = 0; set < sets; set++) {
            reckonWith(set, 0, LAST_SUNDAY);
            if (firstTogether(p, other) != NONE) {
                return 1;
            }
        }
        return 0;
    }

    public int pushed(int b, int gap, int sunday) {
        if (!isBoard(b)) {
            return UNKNOWN;
        }
        if (gap < 1 || gap >= site.inches || !isSunday(sunday)) {
            return OUTSIDE;
        }
        int best = NONE;
        int sets = 1 << site.prisoners;
        for (int set = 0; set < sets; set++) {
            if (isFewer(set, best)) {
                reckonWith(0, set, sunday);
                if (weeks.gapAt(b, sunday) == gap) {
                    best = set;
                }
            }
        }
        return best;
    }

    public int game(int what) {
        if (what != 0 && what != 1) {
            return OUTSIDE;
        }
        if (!hasYard()) {
            return STATE;
        }
        int board = 0;
        int least = widestBehind(0);
        for (int b = 1; b < site.boards; b++) {
            int width = widestBehind(b);
            if (width < least) {
                least = width;
                board = b;
            }
        }
        return what == 0 ? least : board;
    }

    public int knocks(int p, int since, int other) {
        if (!isPrisoner(p) || !isPrisoner(other)) {
            return UNKNOWN;
        }
        if (!isSunday(since)) {
            return OUTSIDE;
        }
        reckonAsItIs(LAST_SUNDAY);
        int knowing = 1 << p;
        for (int s = since; s <= LAST_SUNDAY; s++) {
            knowing = thoseInCells(cellsNear(knowing, s), s);
            if (isIn(knowing, other)) {
                return s;
            }
        }
        return NONE;
    }

    public int walk(int sheet, int lane, int i, int n) {
        int refusal = refusalOfCells(sheet, lane, i, n);
        if (refusal != 0) {
            return refusal;
        }
        if (!hasYard()) {
            return STATE;
        }
        if (n > SUNDAYS) {
            return OUTSIDE;
        }
        for (int k = 0; k < n; k++) {
            if (!isCell(sheets[sheet].numberAt(i + k))) {
                return UNKNOWN;
            }
        }
        return stepsOfWalk(sheets[sheet], i, n);
    }

    // ---- 4 what was seen

    public int reading(int b, int sunday, int gap) {
        if (!isBoard(b)) {
            return UNKNOWN;
        }
        if (!isSunday(sunday) || gap < 0 || gap > MOST_INCHES) {
            return OUTSIDE;
        }
        return readings.add(b, sunday, gap);
    }

    public int back(int k) {
        return readings.drop(k);
    }

    public int struck() {
        if (!hasYard()) {
            return STATE;
        }
        int set = 0;
        for (int p = 0; p < site.prisoners; p++) {
            reckonWith(0, 1 << p, LAST_SUNDAY);
            if (readingsAreSo()) {
                set |= 1 << p;
            }
        }
        return set;
    }

    public int laws() {
        if (!hasYard()) {
            return STATE;
        }
        int set = 0;
        for (int v = 0; v <= 1; v++) {
            weeks.reckon(site, calendar, v, 0, 0, LAST_SUNDAY);
            if (readingsAreSo()) {
                set |= 1 << v;
            }
        }
        return set;
    }

    public int stood(int p) {
        if (!isPrisoner(p)) {
            return UNKNOWN;
        }
        int own = site.places[p];
        int set = 0;
        for (int x = 0; x < site.inches; x++) {
            site.places[p] = x;
            reckonAsItIs(LAST_SUNDAY);
            if (readingsAreSo()) {
                set |= 1 << x;
            }
        }
        site.places[p] = own;
        return set;
    }

    public long odds(int p, int other, int sunday, int which) {
        if (!isPrisoner(p) || !isPrisoner(other)) {
            return LOST;
        }
        if (!isSunday(sunday) || which != 0 && which != 1) {
            return LOST;
        }
        int upper = 0;
        int sets = 1 << site.prisoners;
        for (int set = 0; set < sets; set++) {
            reckonWith(0, set, sunday);
            if (whereIs(p, sunday) == whereIs(other, sunday)) {
                upper++;
            }
        }
        // there are a power of two of sets, so that halving gives the least terms
        int lower = sets;
        for (int k = 0; k < site.prisoners && (upper & 1) == 0; k++) {
            upper >>= 1;
            lower >>= 1;
        }
        return which == 0 ? upper : lower;
    }

    // ---- 5 sheets, parts

    public int sheet(int k, int lane, int n) {
        lastFault = 0;
        if (!isSheet(k)) {
            return UNKNOWN;
        }
        if (!isLane(lane) || n > LONGEST_ROW) {
            return OUTSIDE;
        }
        if (n < 0) {
            return failed(SIZE);
        }
        sheets[k].renew(lane, n);
        return 1;
    }

    public int lose(int k) {
        if (!isSheet(k)) {
            return UNKNOWN;
        }
        int had = sheets[k].lane == NOTHING ? 0 : 1;
        sheets[k].renew(NOTHING, 0);
        return had;
    }

    public int put(int k, int i, int v) {
        lastFault = 0;
        if (!isSheet(k)) {
            return UNKNOWN;
        }
        if (sheets[k].lane == NOTHING) {
            return failed(NULL);
        }
        if (!sheets[k].holds(i, 1)) {
            return failed(INDEX);
        }
        sheets[k].setNumber(i, v);
        return 1;
    }

    public long cell(int k, int i, int lane) {
        lastFault = 0;
        if (!isSheet(k) || !isLane(lane)) {
            return LOST;
        }
        lastFault = sheets[k].faultOfCells(lane, i, 1);
        return lastFault == 0 ? sheets[k].numberAt(i) : LOST;
    }

    public int copy(int k, int i, int other, int j, int n) {
        lastFault = 0;
        if (!isSheet(k) || !isSheet(other)) {
            return UNKNOWN;
        }
        Sheet source = sheets[k];
        Sheet target = sheets[other];
        if (source.lane == NOTHING || target.lane == NOTHING) {
            return failed(NULL);
        }
        if (source.lane != target.lane) {
            return failed(CAST);
        }
        if (!source.holds(i, n) || !target.holds(j, n)) {
            return failed(INDEX);
        }
        System.arraycopy(source.numbers, i, target.numbers, j, n);
        return n;
    }

    public int tell(int p) {
        if (!isPrisoner(p)) {
            return UNKNOWN;
        }
        switch (site.kinds[p]) {
            case BULLY:
                return bullyTells(site.places[p]);
            case TALL:
                return tallTells(site.places[p]);
            default:
                return prisonerTells(site.places[p]);
        }
    }

    public int visit(int p) {
        if (!isPrisoner(p)) {
            return UNKNOWN;
        }
        if (site.kinds[p] == BULLY) {
            leave(5);
            return 90;
        }
        leave(4);
        return p;
    }

    public int as(int p, int kind) {
        lastFault = 0;
        if (!isPrisoner(p)) {
            return UNKNOWN;
        }
        if (kind < PLAIN || kind > BULLY) {
            return OUTSIDE;
        }
        // kinds are numbered so that each is also all those below it
        return site.kinds[p] < kind ? failed(CAST) : 1;
    }

    public int trace() {
        return traceNow;
    }

    public int fault() {
        return lastFault;
    }

    public int many(int what) {
        switch (what) {
            case 0:
                return site.prisoners;
            case 1:
                return site.boards;
            case 2:
                return site.inches;
            case 3:
                return locks.count;
            case 4:
                return strikes.count;
            case 5:
                return readings.count;
            case 6:
                return lawNow;
            default:
                return OUTSIDE;
        }
    }

    // ---- what numbers may be

    private boolean hasYard() {
        return site.boards > 0;
    }

    private boolean isBoard(int b) {
        return b >= 0 && b < site.boards;
    }

    private boolean isPrisoner(int p) {
        return p >= 0 && p < site.prisoners;
    }

    private boolean isCell(int c) {
        return hasYard() && c >= 0 && c <= site.boards;
    }

    private static boolean isSheet(int k) {
        return k >= 0 && k < SHEETS;
    }

    private static boolean isLane(int lane) {
        return lane >= 0 && lane < LANES;
    }

    private static boolean isSunday(int s) {
        return s >= 0 && s <= LAST_SUNDAY;
    }

    private static boolean isSundayOrFirst(int s) {
        return s == AT_FIRST || isSunday(s);
    }

    private static boolean isSpan(int from, int to) {
        return isSunday(from) && isSunday(to) && from <= to;
    }

    private static boolean isIn(int set, int k) {
        return (set >> k & 1) != 0;
    }

    /** Sets are tried from the least on, so that of several with as few the least stays. */
    private static boolean isFewer(int set, int best) {
        return best == NONE || Integer.bitCount(set) < Integer.bitCount(best);
    }

    private static int votesOfKind(int kind) {
        switch (kind) {
            case BULLY:
                return 4;
            case TALL:
                return 2;
            default:
                return 1;
        }
    }

    // ---- parts of calls

    private int failed(int fault) {
        lastFault = fault;
        return -10 - fault;
    }

    /** 0, if n cells of a sheet can be taken as a row of that lane: what yard and walk begin with. */
    private int refusalOfCells(int sheet, int lane, int i, int n) {
        lastFault = 0;
        if (!isSheet(sheet)) {
            return UNKNOWN;
        }
        if (!isLane(lane)) {
            return OUTSIDE;
        }
        int fault = sheets[sheet].faultOfCells(lane, i, n);
        return fault == 0 ? 0 : failed(fault);
    }

    private void forgetRules() {
        lawNow = 0;
        locks.count = 0;
        strikes.count = 0;
        readings.count = 0;
        calendar.mark(locks, strikes);
    }

    private void reckonAsItIs(int last) {
        reckonWith(0, 0, last);
    }

    /** Sets of boards and prisoners that are locked, on strike on all Sundays besides. */
    private void reckonWith(int locked, int silent, int last) {
        weeks.reckon(site, calendar, lawNow, locked, silent, last);
    }

    private int whereIs(int p, int sunday) {
        return weeks.cellAt(site.places[p], sunday);
    }

    private int firstTogether(int p, int other) {
        // behind the last Sunday that was reckoned all stays as it is
        for (int s = 0; s <= weeks.lastReckoned; s++) {
            if (whereIs(p, s) == whereIs(other, s)) {
                return s;
            }
        }
        return NONE;
    }

    private int thoseInCells(int cells, int sunday) {
        int set = 0;
        for (int p = 0; p < site.prisoners; p++) {
            if (isIn(cells, whereIs(p, sunday))) {
                set |= 1 << p;
            }
        }
        return set;
    }

    private int cellsNear(int prisoners, int sunday) {
        int cells = 0;
        for (int p = 0; p < site.prisoners; p++) {
            if (isIn(prisoners, p)) {
                int own = 1 << whereIs(p, sunday);
                cells |= own | own << 1 | own >> 1;
            }
        }
        return cells;
    }

    /** How wide cell 0 becomes, if that board is locked and the best one is on strike. */
    private int widestBehind(int board) {
        int widest = 0;
        for (int p = 0; p < site.prisoners; p++) {
            reckonWith(1 << board, 1 << p, LAST_SUNDAY);
            widest = Math.max(widest, weeks.widthAt(0, LAST_SUNDAY));
        }
        return widest;
    }

    private int stepsOfWalk(Sheet sheet, int i, int n) {
        reckonAsItIs(LAST_SUNDAY);
        int ahead = 0;
        for (int k = 0; k < n; k++) {
            int c = sheet.numberAt(i + k);
            int farthest = k == 0 ? 0 : 1;
            if (Math.abs(c - ahead) > farthest || weeks.widthAt(c, k) < 2) {
                return k;
            }
            ahead = c;
        }
        return n;
    }

    private boolean readingsAreSo() {
        for (int k = 0; k < readings.count; k++) {
            if (weeks.gapAt(readings.first[k], readings.second[k]) != readings.third[k]) {
                return false;
            }
        }
        return true;
    }

    private void leave(int number) {
        traceNow = 31 * traceNow + number;
    }

    private int prisonerTells(int place) {
        leave(1);
        return place;
    }

    private int tallTells(int place) {
        leave(2);
        return prisonerTells(place) + 100;
    }

    private int bullyTells(int place) {
        leave(3);
        int asTall = tallTells(place);
        return asTall + prisonerTells(place);
    }

    /** A row of numbers of a lane, or nothing; one row is kept and used again. */
    private static final class Sheet {
        private final int[] numbers = new int[LONGEST_ROW];
        private int lane = NOTHING;
        private int length = 0;

        void renew(int newLane, int newLength) {
            Arrays.fill(numbers, 0);
            lane = newLane;
            length = newLength;
        }

        boolean holds(int i, int n) {
            return n >= 0 && i >= 0 && i <= length && n <= length - i;
        }

        int faultOfCells(int asLane, int i, int n) {
            if (lane == NOTHING) {
                return NULL;
            }
            if (lane != asLane) {
                return CAST;
            }
            if (n < 0) {
                return SIZE;
            }
            return holds(i, n) ? 0 : INDEX;
        }

        int numberAt(int i) {
            return i >= 0 && i < length ? numbers[i] : 0;
        }

        void setNumber(int i, int v) {
            if (i >= 0 && i < length) {
                numbers[i] = cut(v);
            }
        }

        private int cut(int v) {
            switch (lane) {
                case 0:
                    return (byte) v;
                case 1:
                    return (short) v;
                default:
                    return v;
            }
        }
    }

    /** What a text tells. */
    private static final class Yard {
        private final int[] gaps = new int[MOST_BOARDS];
        private final int[] kinds = new int[MOST_PRISONERS];
        private final int[] places = new int[MOST_PRISONERS];
        private int inches = 0;
        private int boards = 0;
        private int prisoners = 0;
    }

    /** Reads a text code by code; where it is not taken, at is the first fault. */
    private static final class TextReader {
        private Sheet sheet;
        private int start = 0;
        private int count = 0;
        private int at = 0;

        boolean takes(Sheet text, int i, int n, Yard into) {
            sheet = text;
            start = i;
            count = n;
            at = 0;
            return takeInches(into) && takeBoards(into) && takePrisoners(into) && at == count;
        }

        private boolean takeInches(Yard into) {
            if (!takeCode('v')) {
                return false;
            }
            into.inches = takeNumber(4, MOST_INCHES);
            return into.inches >= 0;
        }

        private boolean takeBoards(Yard into) {
            int ahead = 0;
            into.boards = 0;
            for (int b = 0; b < MOST_BOARDS; b++) {
                if (b > 0 && code() != ';') {
                    return true;
                }
                if (!takeCode(';')) {
                    return false;
                }
                ahead = takeNumber(ahead + 1, into.inches - 1);
                if (ahead < 0) {
                    return false;
                }
                into.gaps[b] = ahead;
                into.boards = b + 1;
            }
            return true;
        }

        private boolean takePrisoners(Yard into) {
            into.prisoners = 0;
            for (int p = 0; p < MOST_PRISONERS; p++) {
                if (p > 0 && at == count) {
                    return true;
                }
                if (!takeCode(',')) {
                    return false;
                }
                into.kinds[p] = takeKind();
                if (into.kinds[p] < 0) {
                    return false;
                }
                into.places[p] = takeNumber(0, into.inches - 1);
                if (into.places[p] < 0) {
                    return false;
                }
                into.prisoners = p + 1;
            }
            return true;
        }

        /** -1 behind the end: no code that a text has. */
        private int code() {
            return at < count && sheet != null ? sheet.numberAt(start + at) : -1;
        }

        private boolean takeCode(int wanted) {
            if (code() != wanted) {
                return false;
            }
            at++;
            return true;
        }

        private int takeKind() {
            if (takeCode('p')) {
                return PLAIN;
            }
            if (takeCode('t')) {
                return TALL;
            }
            return takeCode('b') ? BULLY : -1;
        }

        /** A number of two digits, least .. most; -1: at is then at the digit that is wrong. */
        private int takeNumber(int least, int most) {
            int tens = takeDigit(least, most, 0, 10);
            return tens < 0 ? -1 : takeDigit(least, most, tens, 1);
        }

        /** The number so far with a digit more, if one of least .. most can still come of it. */
        private int takeDigit(int least, int most, int soFar, int worth) {
            int digit = code() - '0';
            int lowest = soFar + digit * worth;
            int highest = lowest + worth - 1;
            if (digit < 0 || digit > 9 || Math.max(lowest, least) > Math.min(highest, most)) {
                return -1;
            }
            at++;
            return lowest;
        }
    }

    /** A list of threes: who, from, to of locks and strikes; board, Sunday, gap of readings. */
    private static final class Triples {
        private final int[] first = new int[MOST_READINGS];
        private final int[] second = new int[MOST_READINGS];
        private final int[] third = new int[MOST_READINGS];
        private final int most;
        private int count = 0;

        Triples(int limit) {
            most = Math.min(limit, MOST_READINGS);
        }

        int add(int a, int b, int c) {
            if (count < 0 || count >= most) {
                return FULL;
            }
            first[count] = a;
            second[count] = b;
            third[count] = c;
            count++;
            return count - 1;
        }

        int drop(int k) {
            if (k < 0 || k > count) {
                return OUTSIDE;
            }
            count -= k;
            return count;
        }
    }

    /** Which boards are locked, who is on strike on each Sunday, as sets. */
    private static final class Calendar {
        private final int[] locked = new int[SUNDAYS];
        private final int[] silent = new int[SUNDAYS];
        private int steadyFrom = 0;

        void mark(Triples locks, Triples strikes) {
            markSets(locked, locks);
            markSets(silent, strikes);
            steadyFrom = 0;
            for (int s = 1; s < SUNDAYS; s++) {
                if (locked[s] != locked[s - 1] || silent[s] != silent[s - 1]) {
                    steadyFrom = s;
                }
            }
        }

        private static void markSets(int[] sets, Triples spans) {
            Arrays.fill(sets, 0);
            for (int k = 0; k < spans.count; k++) {
                int last = Math.min(spans.third[k], LAST_SUNDAY);
                for (int s = Math.max(spans.second[k], 0); s <= last; s++) {
                    sets[s] |= 1 << spans.first[k];
                }
            }
        }
    }

    /** Where boards are as Sundays end. */
    private static final class Weeks {
        private final int[] rows = new int[(SUNDAYS + 1) * MOST_BOARDS];
        private final int[] gaps = new int[MOST_BOARDS];
        private final int[] votesBelow = new int[MOST_INCHES + 1];
        private int boards = 0;
        private int inches = 0;
        private int lastReckoned = AT_FIRST;
        private int lastMove = AT_FIRST;

        void reckon(Yard yard, Calendar calendar, int law, int locked, int silent, int last) {
            begin(yard);
            int counted = -1;
            for (int s = 0; s <= last && s < SUNDAYS; s++) {
                int quiet = calendar.silent[s] | silent;
                if (quiet != counted) {
                    countVotes(yard, quiet);
                    counted = quiet;
                }
                boolean moved = pushAll(law, calendar.locked[s] | locked);
                lastReckoned = s;
                System.arraycopy(gaps, 0, rows, (s + 1) * MOST_BOARDS, MOST_BOARDS);
                if (moved) {
                    lastMove = s;
                } else if (s >= calendar.steadyFrom) {
                    // nothing changes from here on, so nothing moves any more
                    break;
                }
            }
        }

        private void begin(Yard yard) {
            boards = yard.boards;
            inches = yard.inches;
            lastReckoned = AT_FIRST;
            lastMove = AT_FIRST;
            System.arraycopy(yard.gaps, 0, gaps, 0, MOST_BOARDS);
            System.arraycopy(gaps, 0, rows, 0, MOST_BOARDS);
        }

        private void countVotes(Yard yard, int silent) {
            Arrays.fill(votesBelow, 0);
            for (int p = 0; p < yard.prisoners; p++) {
                int place = yard.places[p];
                if (!isIn(silent, p) && place >= 0 && place < MOST_INCHES) {
                    votesBelow[place + 1] += votesOfKind(yard.kinds[p]);
                }
            }
            for (int x = 1; x <= MOST_INCHES; x++) {
                votesBelow[x] += votesBelow[x - 1];
            }
        }

        private boolean pushAll(int law, int locked) {
            boolean moved = false;
            for (int k = 0; k < boards; k++) {
                int b = law == 0 ? k : boards - 1 - k;
                if (!isIn(locked, b) && pushOne(b)) {
                    moved = true;
                }
            }
            return moved;
        }

        private boolean pushOne(int b) {
            int low = b == 0 ? 0 : gaps[b - 1];
            int high = b == boards - 1 ? inches : gaps[b + 1];
            int here = gaps[b];
            int left = votesFromTo(low, here);
            int right = votesFromTo(here, high);
            int next = here + Integer.compare(left, right);
            if (next == here || next <= low || next >= high) {
                return false;
            }
            gaps[b] = next;
            return true;
        }

        private int votesFromTo(int low, int high) {
            if (low < 0 || low > MOST_INCHES || high < 0 || high > MOST_INCHES) {
                return 0;
            }
            return votesBelow[high] - votesBelow[low];
        }

        int gapAt(int b, int sunday) {
            int k = (Math.min(sunday, lastReckoned) + 1) * MOST_BOARDS + b;
            return k >= 0 && k < rows.length ? rows[k] : 0;
        }

        int cellAt(int place, int sunday) {
            int c = 0;
            for (int b = 0; b < boards; b++) {
                if (gapAt(b, sunday) <= place) {
                    c = b + 1;
                }
            }
            return c;
        }

        int widthAt(int c, int sunday) {
            int low = c == 0 ? 0 : gapAt(c - 1, sunday);
            int high = c == boards ? inches : gapAt(c, sunday);
            return high - low;
        }
    }
}
