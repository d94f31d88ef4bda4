import java.util.ArrayList;
import java.util.List;

/**
 * The document once more, as slowly and plainly as can be, for ModelTest to compare with. FAULTS are
 * what the machine itself throws here, and the bodies of TELLING are methods of real classes.
 */
final class Model {
    private static final int UNKNOWN = -1, OUTSIDE = -2, STATE = -3, FULL = -4, NONE = -9;
    private static final long LOST = Long.MIN_VALUE;

    private final Object[] sheets = new Object[4];
    private final List<int[]> locks = new ArrayList<>();
    private final List<int[]> strikes = new ArrayList<>();
    private final List<int[]> readings = new ArrayList<>();
    private int inches = 0;
    private List<Integer> boards = new ArrayList<>();
    private List<Person> people = new ArrayList<>();
    private int law = 0;
    private int trace = 0;
    private int fault = 0;

    private interface Visited {
        default int visited(Model m, int number) {
            m.leave(4);
            return number;
        }
    }

    private static class Person implements Visited {
        int place;

        int told(Model m) {
            return toldAsPerson(m);
        }

        final int toldAsPerson(Model m) {
            m.leave(1);
            return place;
        }

        int votes() {
            return 1;
        }
    }

    private static class TallPerson extends Person {
        @Override int told(Model m) {
            m.leave(2);
            return toldAsPerson(m) + 100;
        }

        @Override int votes() {
            return super.votes() + 1;
        }
    }

    private static final class BullyPerson extends TallPerson {
        @Override int told(Model m) {
            m.leave(3);
            int tall = super.told(m);
            return tall + toldAsPerson(m);
        }

        @Override int votes() {
            return 2 * super.votes();
        }

        @Override public int visited(Model m, int number) {
            m.leave(5);
            return 90;
        }
    }

    private void leave(int number) {
        trace = trace * 31 + number;
    }

    // ---- faults by the machine

    private static int kindOfFault(RuntimeException e) {
        if (e instanceof NullPointerException) {
            return 1;
        }
        if (e instanceof ClassCastException || e instanceof ArrayStoreException) {
            return 2;
        }
        if (e instanceof IndexOutOfBoundsException) {
            return 3;
        }
        if (e instanceof NegativeArraySizeException) {
            return 4;
        }
        throw e;
    }

    private int failed(RuntimeException e) {
        fault = kindOfFault(e);
        return -10 - fault;
    }

    private static long at(Object row, int lane, int i) {
        switch (lane) {
            case 0: return ((byte[]) row)[i];
            case 1: return ((short[]) row)[i];
            default: return ((int[]) row)[i];
        }
    }

    private static int[] cells(Object row, int lane, int i, int n) {
        Object cast;
        Object taken;
        switch (lane) {
            case 0: cast = (byte[]) row; break;
            case 1: cast = (short[]) row; break;
            default: cast = (int[]) row; break;
        }
        if (cast == null) {
            throw new NullPointerException();
        }
        if (n > 60) {
            // no row is so long: this spares the machine a row of that length
            throw new IndexOutOfBoundsException();
        }
        taken = lane == 0 ? new byte[n] : lane == 1 ? new short[n] : new int[n];
        System.arraycopy(cast, i, taken, 0, n);
        int[] ints = new int[n];
        for (int k = 0; k < n; k++) {
            ints[k] = (int) at(taken, lane, k);
        }
        return ints;
    }

    private static boolean no(int k, int count) {
        return k < 0 || k >= count;
    }

    // ---- 1

    int yard(int sheet, int lane, int i, int n) {
        fault = 0;
        if (no(sheet, 4)) {
            return UNKNOWN;
        }
        if (no(lane, 3)) {
            return OUTSIDE;
        }
        int[] codes;
        try {
            codes = cells(sheets[sheet], lane, i, n);
        } catch (RuntimeException e) {
            return failed(e);
        }
        for (int k = 1; k <= n; k++) {
            if (!goesOn(codes, k)) {
                return -100 - (k - 1);
            }
        }
        if (!isWhole(codes)) {
            return -100 - n;
        }
        make(codes);
        return people.size();
    }

    /** Whether a text can begin with the first k codes (the ; behind a last gap may stand, too). */
    private static boolean goesOn(int[] codes, int k) {
        StringBuilder b = new StringBuilder();
        for (int j = 0; j < k; j++) {
            b.append(codes[j] > 0 && codes[j] < 128 ? (char) codes[j] : '?');
        }
        String text = b.toString();
        if (!text.startsWith("v")) {
            return false;
        }
        if (!beginsNumber(text, 1, 4, 30)) {
            return false;
        }
        if (k <= 3) {
            return true;
        }
        int inches = Integer.parseInt(text.substring(1, 3));
        int comma = text.indexOf(',');
        String boards = comma < 0 ? text.substring(3) : text.substring(3, comma);
        if (comma >= 0 && (boards.isEmpty() || boards.length() % 3 != 0)) {
            return false;
        }
        if (boards.length() > 15) {
            return false;
        }
        int ahead = 0;
        for (int j = 0; j < boards.length(); j += 3) {
            if (boards.charAt(j) != ';' || !beginsNumber(boards, j + 1, ahead + 1, inches - 1)) {
                return false;
            }
            if (j + 3 <= boards.length()) {
                ahead = Integer.parseInt(boards.substring(j + 1, j + 3));
            }
        }
        String people = comma < 0 ? "" : text.substring(comma);
        if (people.length() > 32) {
            return false;
        }
        for (int j = 0; j < people.length(); j += 4) {
            boolean kind = j + 1 >= people.length() || "ptb".indexOf(people.charAt(j + 1)) >= 0;
            if (people.charAt(j) != ',' || !kind || !beginsNumber(people, j + 2, 0, inches - 1)) {
                return false;
            }
        }
        return true;
    }

    private static boolean beginsNumber(String text, int from, int least, int most) {
        String digits = text.substring(Math.min(from, text.length()), Math.min(from + 2, text.length()));
        if (digits.isEmpty()) {
            return true;
        }
        for (int v = least; v <= most; v++) {
            if (String.format("%02d", v).startsWith(digits)) {
                return true;
            }
        }
        return false;
    }

    private static boolean isWhole(int[] codes) {
        int comma = -1;
        for (int k = 0; k < codes.length && comma < 0; k++) {
            if (codes[k] == ',') {
                comma = k;
            }
        }
        return comma > 0 && (codes.length - comma) % 4 == 0;
    }

    private static int number(int[] codes, int at) {
        return (codes[at] - '0') * 10 + codes[at + 1] - '0';
    }

    private void make(int[] codes) {
        inches = number(codes, 1);
        boards = new ArrayList<>();
        people = new ArrayList<>();
        law = 0;
        locks.clear();
        strikes.clear();
        readings.clear();
        int at = 3;
        while (codes[at] == ';') {
            boards.add(number(codes, at + 1));
            at += 3;
        }
        while (at < codes.length) {
            Person one = codes[at + 1] == 'p' ? new Person()
                    : codes[at + 1] == 't' ? new TallPerson() : new BullyPerson();
            one.place = number(codes, at + 2);
            people.add(one);
            at += 4;
        }
    }

    int ofPrisoner(int p, int what) {
        if (no(p, people.size())) {
            return UNKNOWN;
        }
        Person one = people.get(p);
        switch (what) {
            case 0: return one instanceof BullyPerson ? 2 : one instanceof TallPerson ? 1 : 0;
            case 1: return one.place;
            case 2: return one.votes();
            default: return OUTSIDE;
        }
    }

    int law(int v) {
        if (no(v, 2)) {
            return OUTSIDE;
        }
        if (people.isEmpty()) {
            return STATE;
        }
        int was = law;
        law = v;
        return was;
    }

    private static int span(List<int[]> spans, int count, int who, int from, int to) {
        if (no(who, count)) {
            return UNKNOWN;
        }
        if (no(from, 50) || no(to, 50) || to < from) {
            return OUTSIDE;
        }
        if (spans.size() == 6) {
            return FULL;
        }
        spans.add(new int[] {who, from, to});
        return spans.size() - 1;
    }

    private static int takeOff(List<int[]> list, int k) {
        if (no(k, list.size() + 1)) {
            return OUTSIDE;
        }
        for (int j = 0; j < k; j++) {
            list.remove(list.size() - 1);
        }
        return list.size();
    }

    int lock(int b, int from, int to) {
        return span(locks, boards.size(), b, from, to);
    }

    int unlock(int k) {
        return takeOff(locks, k);
    }

    int strike(int p, int from, int to) {
        return span(strikes, people.size(), p, from, to);
    }

    int eat(int k) {
        return takeOff(strikes, k);
    }

    // ---- 2

    private static boolean covers(List<int[]> spans, int who, int sunday) {
        for (int[] s : spans) {
            if (s[0] == who && s[1] <= sunday && sunday <= s[2]) {
                return true;
            }
        }
        return false;
    }

    private static int cellIn(int[] gaps, int place) {
        int c = 0;
        while (c < gaps.length && place >= gaps[c]) {
            c++;
        }
        return c;
    }

    /** Gaps as Sundays end: row 0 at first, row s + 1 as Sunday s ends. */
    private int[][] weeks(int byLaw, int lockSet, int strikeSet) {
        int[][] rows = new int[51][boards.size()];
        for (int b = 0; b < boards.size(); b++) {
            rows[0][b] = boards.get(b);
        }
        for (int s = 0; s < 50; s++) {
            int[] now = rows[s].clone();
            for (int k = 0; k < now.length; k++) {
                int b = byLaw == 0 ? k : now.length - 1 - k;
                if (!covers(locks, b, s) && (lockSet >> b & 1) == 0) {
                    move(now, b, s, strikeSet);
                }
            }
            rows[s + 1] = now;
        }
        return rows;
    }

    private void move(int[] now, int b, int s, int strikeSet) {
        int left = 0;
        int right = 0;
        for (int p = 0; p < people.size(); p++) {
            if (covers(strikes, p, s) || (strikeSet >> p & 1) == 1) {
                continue;
            }
            int c = cellIn(now, people.get(p).place);
            left += c == b ? people.get(p).votes() : 0;
            right += c == b + 1 ? people.get(p).votes() : 0;
        }
        int to = now[b] + (left > right ? 1 : left < right ? -1 : 0);
        boolean free = to > 0 && to < inches;
        for (int other = 0; other < now.length; other++) {
            free = free && (other == b || now[other] != to);
        }
        if (free) {
            now[b] = to;
        }
    }

    private int[][] weeks() {
        return weeks(law, 0, 0);
    }

    private int cellOfOne(int[][] rows, int p, int sunday) {
        return cellIn(rows[sunday + 1], people.get(p).place);
    }

    private int width(int[][] rows, int c, int sunday) {
        int[] gaps = rows[sunday + 1];
        return (c == gaps.length ? inches : gaps[c]) - (c == 0 ? 0 : gaps[c - 1]);
    }

    int gap(int b, int sunday) {
        if (no(b, boards.size())) {
            return UNKNOWN;
        }
        return no(sunday + 1, 51) ? OUTSIDE : weeks()[sunday + 1][b];
    }

    int cellOf(int p, int sunday) {
        if (no(p, people.size())) {
            return UNKNOWN;
        }
        return no(sunday + 1, 51) ? OUTSIDE : cellOfOne(weeks(), p, sunday);
    }

    int wide(int c, int sunday) {
        if (boards.isEmpty() || no(c, boards.size() + 1)) {
            return UNKNOWN;
        }
        return no(sunday + 1, 51) ? OUTSIDE : width(weeks(), c, sunday);
    }

    int with(int p, int sunday) {
        if (no(p, people.size())) {
            return UNKNOWN;
        }
        if (no(sunday + 1, 51)) {
            return OUTSIDE;
        }
        int set = 0;
        int[][] rows = weeks();
        for (int q = 0; q < people.size(); q++) {
            set |= cellOfOne(rows, q, sunday) == cellOfOne(rows, p, sunday) ? 1 << q : 0;
        }
        return set;
    }

    private int firstMeeting(int[][] rows, int p, int other) {
        for (int s = 0; s < 50; s++) {
            if (cellOfOne(rows, p, s) == cellOfOne(rows, other, s)) {
                return s;
            }
        }
        return NONE;
    }

    int meet(int p, int other) {
        if (no(p, people.size()) || no(other, people.size())) {
            return UNKNOWN;
        }
        return firstMeeting(weeks(), p, other);
    }

    int rests() {
        if (people.isEmpty()) {
            return STATE;
        }
        int[][] rows = weeks();
        int first = 50;
        while (first > 0 && java.util.Arrays.equals(rows[first], rows[first - 1])) {
            first--;
        }
        return first == 50 ? NONE : first;
    }

    // ---- 3

    int apart(int p, int other) {
        if (no(p, people.size()) || no(other, people.size()) || p == other) {
            return UNKNOWN;
        }
        for (int many = 0; many <= boards.size(); many++) {
            for (int set = 0; set < 1 << boards.size(); set++) {
                if (Integer.bitCount(set) == many && firstMeeting(weeks(law, set, 0), p, other) == NONE) {
                    return set;
                }
            }
        }
        return NONE;
    }

    int joined(int p, int other) {
        if (no(p, people.size()) || no(other, people.size()) || p == other) {
            return UNKNOWN;
        }
        int joined = 0;
        for (int set = 0; set < 1 << boards.size(); set++) {
            joined |= firstMeeting(weeks(law, set, 0), p, other) == NONE ? 0 : 1;
        }
        return joined;
    }

    int pushed(int b, int gap, int sunday) {
        if (no(b, boards.size())) {
            return UNKNOWN;
        }
        if (gap < 1 || gap > inches - 1 || no(sunday, 50)) {
            return OUTSIDE;
        }
        for (int many = 0; many <= people.size(); many++) {
            for (int set = 0; set < 1 << people.size(); set++) {
                if (Integer.bitCount(set) == many && weeks(law, 0, set)[sunday + 1][b] == gap) {
                    return set;
                }
            }
        }
        return NONE;
    }

    int game(int what) {
        if (no(what, 2)) {
            return OUTSIDE;
        }
        if (people.isEmpty()) {
            return STATE;
        }
        int[] most = new int[boards.size()];
        for (int b = 0; b < most.length; b++) {
            for (int p = 0; p < people.size(); p++) {
                most[b] = Math.max(most[b], width(weeks(law, 1 << b, 1 << p), 0, 49));
            }
        }
        int board = most.length - 1;
        for (int b = most.length - 1; b >= 0; b--) {
            board = most[b] <= most[board] ? b : board;
        }
        return what == 0 ? most[board] : board;
    }

    int knocks(int p, int since, int other) {
        if (no(p, people.size()) || no(other, people.size())) {
            return UNKNOWN;
        }
        if (no(since, 50)) {
            return OUTSIDE;
        }
        int[][] rows = weeks();
        boolean[] knew = new boolean[people.size()];
        knew[p] = true;
        for (int s = since; s < 50; s++) {
            boolean[] know = knew.clone();
            for (int q = 0; q < knew.length; q++) {
                for (int r = 0; r < knew.length; r++) {
                    int far = Math.abs(cellOfOne(rows, q, s) - cellOfOne(rows, r, s));
                    know[q] = know[q] || knew[r] && far <= 1;
                }
            }
            knew = know;
            if (knew[other]) {
                return s;
            }
        }
        return NONE;
    }

    int walk(int sheet, int lane, int i, int n) {
        fault = 0;
        if (no(sheet, 4)) {
            return UNKNOWN;
        }
        if (no(lane, 3)) {
            return OUTSIDE;
        }
        int[] way;
        try {
            way = cells(sheets[sheet], lane, i, n);
        } catch (RuntimeException e) {
            return failed(e);
        }
        if (people.isEmpty()) {
            return STATE;
        }
        if (n > 50) {
            return OUTSIDE;
        }
        for (int c : way) {
            if (no(c, boards.size() + 1)) {
                return UNKNOWN;
            }
        }
        int[][] rows = weeks();
        int k = 0;
        while (k < n && width(rows, way[k], k) >= 2
                && (k == 0 ? way[0] == 0 : Math.abs(way[k] - way[k - 1]) <= 1)) {
            k++;
        }
        return k;
    }

    // ---- 4

    int reading(int b, int sunday, int gap) {
        if (no(b, boards.size())) {
            return UNKNOWN;
        }
        if (no(sunday, 50) || no(gap, 31)) {
            return OUTSIDE;
        }
        if (readings.size() == 8) {
            return FULL;
        }
        readings.add(new int[] {b, sunday, gap});
        return readings.size() - 1;
    }

    int back(int k) {
        return takeOff(readings, k);
    }

    private boolean allSo(int[][] rows) {
        for (int[] r : readings) {
            if (rows[r[1] + 1][r[0]] != r[2]) {
                return false;
            }
        }
        return true;
    }

    int struck() {
        if (people.isEmpty()) {
            return STATE;
        }
        int set = 0;
        for (int p = 0; p < people.size(); p++) {
            set |= allSo(weeks(law, 0, 1 << p)) ? 1 << p : 0;
        }
        return set;
    }

    int laws() {
        if (people.isEmpty()) {
            return STATE;
        }
        return (allSo(weeks(0, 0, 0)) ? 1 : 0) | (allSo(weeks(1, 0, 0)) ? 2 : 0);
    }

    int stood(int p) {
        if (no(p, people.size())) {
            return UNKNOWN;
        }
        int own = people.get(p).place;
        int set = 0;
        for (int x = 0; x < inches; x++) {
            people.get(p).place = x;
            set |= allSo(weeks()) ? 1 << x : 0;
        }
        people.get(p).place = own;
        return set;
    }

    long odds(int p, int other, int sunday, int which) {
        if (no(p, people.size()) || no(other, people.size()) || no(sunday, 50) || no(which, 2)) {
            return LOST;
        }
        long so = 0;
        long all = 1L << people.size();
        for (int set = 0; set < all; set++) {
            int[][] rows = weeks(law, 0, set);
            so += cellOfOne(rows, p, sunday) == cellOfOne(rows, other, sunday) ? 1 : 0;
        }
        long common = java.math.BigInteger.valueOf(so).gcd(java.math.BigInteger.valueOf(all)).longValue();
        return (which == 0 ? so : all) / common;
    }

    // ---- 5

    int sheet(int k, int lane, int n) {
        fault = 0;
        if (no(k, 4)) {
            return UNKNOWN;
        }
        if (no(lane, 3) || n > 60) {
            return OUTSIDE;
        }
        try {
            sheets[k] = lane == 0 ? new byte[n] : lane == 1 ? new short[n] : new int[n];
            return 1;
        } catch (RuntimeException e) {
            return failed(e);
        }
    }

    int lose(int k) {
        if (no(k, 4)) {
            return UNKNOWN;
        }
        int had = sheets[k] == null ? 0 : 1;
        sheets[k] = null;
        return had;
    }

    int put(int k, int i, int v) {
        fault = 0;
        if (no(k, 4)) {
            return UNKNOWN;
        }
        try {
            Object row = sheets[k];
            if (row instanceof byte[]) {
                ((byte[]) row)[i] = (byte) v;
            } else if (row instanceof short[]) {
                ((short[]) row)[i] = (short) v;
            } else {
                ((int[]) row)[i] = v;
            }
            return 1;
        } catch (RuntimeException e) {
            return failed(e);
        }
    }

    long cell(int k, int i, int lane) {
        fault = 0;
        if (no(k, 4) || no(lane, 3)) {
            return LOST;
        }
        try {
            return at(sheets[k], lane, i);
        } catch (RuntimeException e) {
            failed(e);
            return LOST;
        }
    }

    int copy(int k, int i, int other, int j, int n) {
        fault = 0;
        if (no(k, 4) || no(other, 4)) {
            return UNKNOWN;
        }
        try {
            System.arraycopy(sheets[k], i, sheets[other], j, n);
            return n;
        } catch (RuntimeException e) {
            return failed(e);
        }
    }

    int tell(int p) {
        return no(p, people.size()) ? UNKNOWN : people.get(p).told(this);
    }

    int visit(int p) {
        return no(p, people.size()) ? UNKNOWN : people.get(p).visited(this, p);
    }

    int as(int p, int kind) {
        fault = 0;
        if (no(p, people.size())) {
            return UNKNOWN;
        }
        if (no(kind, 3)) {
            return OUTSIDE;
        }
        try {
            Person one = people.get(p);
            one = kind == 0 ? one : kind == 1 ? (TallPerson) one : (BullyPerson) one;
            return 1;
        } catch (RuntimeException e) {
            return failed(e);
        }
    }

    int trace() {
        return trace;
    }

    int fault() {
        return fault;
    }

    int many(int what) {
        int[] all = {people.size(), boards.size(), inches, locks.size(), strikes.size(), readings.size(), law};
        return no(what, 7) ? OUTSIDE : all[what];
    }
}
