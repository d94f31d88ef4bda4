import java.util.List;
import java.util.function.ToLongFunction;

/** Each refusal and each FAULT of each call changes nothing but fault(), and that only of a call that names one. */
public final class RefusalTest {
    private static final Check check = new Check("RefusalTest");
    private static final int UNKNOWN = -1, OUTSIDE = -2, STATE = -3, FULL = -4;
    private static final long LOST = Long.MIN_VALUE;
    /** What fault() is behind a call that names no FAULTS: what it was. */
    private static final int STAYS = 2;

    public static void main(String[] args) {
        check.under("Terms", "REFUSALS change nothing (but fault(), of a call that names FAULTS)");
        ofTheYard();
        ofSundays();
        ofLocksAndStrikes();
        ofWhatWasSeen();
        ofSheets();
        ofParts();
        full();
        check.under("Terms", "a FAULT: it answers -10 less it (LOST, where a long is answered) and changes nothing");
        faultsOfCells();
        faultsOfSheets();
        check.under("Terms", "REFUSALS change nothing, without a YARD, too");
        withoutYard();
        check.end();
    }

    /** A yard with rules and readings, and sheets of each lane; sheet 3 has nothing. */
    private static VoteWalls used() {
        VoteWalls x = Check.yardOf("v12;04;08,p01,t06,b10");
        x.law(1);
        x.lock(1, 2, 5);
        x.strike(2, 1, 3);
        x.reading(0, 0, 4);
        x.tell(2);
        x.sheet(0, 0, 5);
        x.put(0, 4, -7);
        x.sheet(1, 1, 60);
        x.put(1, 59, 300);
        x.sheet(2, 2, 10);
        x.put(2, 9, 70000);
        x.lose(3);
        return x;
    }

    private static void holds(VoteWalls x, String call, ToLongFunction<VoteWalls> made, long due, int fault) {
        String before = State.of(x);
        if (x.many(0) > 0) {
            check.due("a FAULT (CAST) ahead of " + call, x.as(0, 2), -12);
        }
        check.due(call, made.applyAsLong(x), due);
        check.due("fault() behind " + call, x.fault(), fault);
        check.isTrue(call + " changes nothing", State.of(x).equals(before));
    }

    private static void refused(String call, ToLongFunction<VoteWalls> made, long due) {
        holds(used(), call, made, due, STAYS);
    }

    private static void refusedToZero(String call, ToLongFunction<VoteWalls> made, long due) {
        holds(used(), call, made, due, 0);
    }

    private static void faulty(String call, ToLongFunction<VoteWalls> made, long due, int fault) {
        holds(used(), call, made, due, fault);
    }

    private static void ofTheYard() {
        refusedToZero("yard UNKNOWN", x -> x.yard(4, 0, 0, 0), UNKNOWN);
        refusedToZero("yard OUTSIDE", x -> x.yard(0, 3, 0, 0), OUTSIDE);
        refusedToZero("yard of no TEXT", x -> x.yard(0, 0, 0, 5), -100);
        refusedToZero("yard of no cells", x -> x.yard(0, 0, 5, 0), -100);
        refused("ofPrisoner UNKNOWN", x -> x.ofPrisoner(3, 0), UNKNOWN);
        refused("ofPrisoner OUTSIDE", x -> x.ofPrisoner(0, 3), OUTSIDE);
        refused("law OUTSIDE", x -> x.law(2), OUTSIDE);
        refused("lock UNKNOWN", x -> x.lock(2, 0, 0), UNKNOWN);
        refused("lock OUTSIDE, from", x -> x.lock(0, -1, 0), OUTSIDE);
        refused("lock OUTSIDE, to", x -> x.lock(0, 0, 50), OUTSIDE);
        refused("lock OUTSIDE, to below from", x -> x.lock(0, 1, 0), OUTSIDE);
        refused("unlock OUTSIDE", x -> x.unlock(2), OUTSIDE);
        refused("unlock OUTSIDE, below 0", x -> x.unlock(-1), OUTSIDE);
        refused("strike UNKNOWN", x -> x.strike(3, 0, 0), UNKNOWN);
        refused("strike OUTSIDE, from", x -> x.strike(0, -1, 0), OUTSIDE);
        refused("strike OUTSIDE, to", x -> x.strike(0, 0, 50), OUTSIDE);
        refused("strike OUTSIDE, to below from", x -> x.strike(0, 1, 0), OUTSIDE);
        refused("eat OUTSIDE", x -> x.eat(2), OUTSIDE);
        refused("eat OUTSIDE, below 0", x -> x.eat(-1), OUTSIDE);
    }

    private static void ofSundays() {
        refused("gap UNKNOWN", x -> x.gap(2, 0), UNKNOWN);
        refused("gap OUTSIDE", x -> x.gap(0, 50), OUTSIDE);
        refused("cellOf UNKNOWN", x -> x.cellOf(3, 0), UNKNOWN);
        refused("cellOf OUTSIDE", x -> x.cellOf(0, 50), OUTSIDE);
        refused("wide UNKNOWN", x -> x.wide(3, 0), UNKNOWN);
        refused("wide OUTSIDE", x -> x.wide(0, 50), OUTSIDE);
        refused("with UNKNOWN", x -> x.with(3, 0), UNKNOWN);
        refused("with OUTSIDE", x -> x.with(0, 50), OUTSIDE);
        refused("meet UNKNOWN", x -> x.meet(0, 3), UNKNOWN);
    }

    private static void ofLocksAndStrikes() {
        refused("apart UNKNOWN", x -> x.apart(0, 3), UNKNOWN);
        refused("apart UNKNOWN, they are one", x -> x.apart(1, 1), UNKNOWN);
        refused("joined UNKNOWN", x -> x.joined(3, 0), UNKNOWN);
        refused("joined UNKNOWN, they are one", x -> x.joined(1, 1), UNKNOWN);
        refused("pushed UNKNOWN", x -> x.pushed(2, 1, 0), UNKNOWN);
        refused("pushed OUTSIDE, gap", x -> x.pushed(0, 12, 0), OUTSIDE);
        refused("pushed OUTSIDE, sunday", x -> x.pushed(0, 1, 50), OUTSIDE);
        refused("game OUTSIDE", x -> x.game(2), OUTSIDE);
        refused("knocks UNKNOWN", x -> x.knocks(0, 0, 3), UNKNOWN);
        refused("knocks OUTSIDE", x -> x.knocks(0, 50, 1), OUTSIDE);
        refusedToZero("walk UNKNOWN", x -> x.walk(4, 0, 0, 0), UNKNOWN);
        refusedToZero("walk OUTSIDE, lane", x -> x.walk(0, 3, 0, 0), OUTSIDE);
        refusedToZero("walk OUTSIDE, n", x -> x.walk(1, 1, 0, 51), OUTSIDE);
        refusedToZero("walk UNKNOWN, a CELL", x -> x.walk(0, 0, 4, 1), UNKNOWN);
    }

    private static void ofWhatWasSeen() {
        refused("reading UNKNOWN", x -> x.reading(2, 0, 0), UNKNOWN);
        refused("reading OUTSIDE, sunday", x -> x.reading(0, 50, 0), OUTSIDE);
        refused("reading OUTSIDE, gap", x -> x.reading(0, 0, 31), OUTSIDE);
        refused("back OUTSIDE", x -> x.back(2), OUTSIDE);
        refused("back OUTSIDE, below 0", x -> x.back(-1), OUTSIDE);
        refused("stood UNKNOWN", x -> x.stood(3), UNKNOWN);
        refused("odds UNKNOWN", x -> x.odds(0, 3, 0, 0), LOST);
        refused("odds OUTSIDE, sunday", x -> x.odds(0, 1, 50, 0), LOST);
        refused("odds OUTSIDE, which", x -> x.odds(0, 1, 0, 2), LOST);
    }

    private static void ofSheets() {
        refusedToZero("sheet UNKNOWN", x -> x.sheet(4, 0, 1), UNKNOWN);
        refusedToZero("sheet OUTSIDE, lane", x -> x.sheet(0, 3, 1), OUTSIDE);
        refusedToZero("sheet OUTSIDE, n", x -> x.sheet(0, 0, 61), OUTSIDE);
        refused("lose UNKNOWN", x -> x.lose(4), UNKNOWN);
        refused("lose of nothing", x -> x.lose(3), 0);
        refusedToZero("put UNKNOWN", x -> x.put(4, 0, 1), UNKNOWN);
        refusedToZero("cell UNKNOWN", x -> x.cell(4, 0, 0), LOST);
        refusedToZero("cell OUTSIDE", x -> x.cell(0, 0, 3), LOST);
        refusedToZero("copy UNKNOWN, the first", x -> x.copy(4, 0, 0, 0, 1), UNKNOWN);
        refusedToZero("copy UNKNOWN, the other", x -> x.copy(0, 0, 4, 0, 1), UNKNOWN);
    }

    private static void ofParts() {
        refused("tell UNKNOWN", x -> x.tell(3), UNKNOWN);
        refused("visit UNKNOWN", x -> x.visit(3), UNKNOWN);
        refusedToZero("as UNKNOWN", x -> x.as(3, 0), UNKNOWN);
        refusedToZero("as OUTSIDE", x -> x.as(0, 3), OUTSIDE);
        refused("many OUTSIDE", x -> x.many(7), OUTSIDE);
        refused("trace()", x -> x.trace(), 31 * (31 * (31 * 3 + 2) + 1) + 1);
        refused("fault()", x -> x.fault(), STAYS);
    }

    private static void full() {
        VoteWalls x = used();
        for (int k = 1; k < 6; k++) {
            x.lock(0, k, k);
            x.strike(0, k, k);
        }
        for (int k = 1; k < 8; k++) {
            x.reading(0, 0, 4);
        }
        holds(x, "lock FULL", y -> y.lock(0, 0, 49), FULL, STAYS);
        VoteWalls strikes = used();
        for (int k = 1; k < 6; k++) {
            strikes.strike(0, k, k);
        }
        holds(strikes, "strike FULL", y -> y.strike(1, 0, 49), FULL, STAYS);
        VoteWalls readings = used();
        for (int k = 1; k < 8; k++) {
            readings.reading(0, 0, 4);
        }
        holds(readings, "reading FULL", y -> y.reading(0, 0, 0), FULL, STAYS);
    }

    private static void faultsOfCells() {
        faulty("yard NULL", x -> x.yard(3, 0, 0, 0), -11, 1);
        faulty("yard CAST", x -> x.yard(0, 1, 0, 0), -12, 2);
        faulty("yard INDEX", x -> x.yard(0, 0, 0, 6), -13, 3);
        faulty("yard SIZE", x -> x.yard(0, 0, 0, -1), -14, 4);
        faulty("walk NULL", x -> x.walk(3, 0, 0, 0), -11, 1);
        faulty("walk CAST", x -> x.walk(0, 1, 0, 0), -12, 2);
        faulty("walk INDEX", x -> x.walk(0, 0, 0, 6), -13, 3);
        faulty("walk SIZE", x -> x.walk(0, 0, 0, -1), -14, 4);
    }

    private static void faultsOfSheets() {
        faulty("sheet SIZE", x -> x.sheet(0, 0, -1), -14, 4);
        faulty("put NULL", x -> x.put(3, 0, 1), -11, 1);
        faulty("put INDEX", x -> x.put(0, 5, 1), -13, 3);
        faulty("cell NULL", x -> x.cell(3, 0, 0), LOST, 1);
        faulty("cell CAST", x -> x.cell(0, 0, 1), LOST, 2);
        faulty("cell INDEX", x -> x.cell(0, 5, 0), LOST, 3);
        faulty("copy NULL, the first", x -> x.copy(3, 0, 0, 0, 1), -11, 1);
        faulty("copy NULL, the other", x -> x.copy(0, 0, 3, 0, 1), -11, 1);
        faulty("copy CAST", x -> x.copy(0, 0, 1, 0, 1), -12, 2);
        faulty("copy INDEX, i", x -> x.copy(0, -1, 0, 0, 1), -13, 3);
        faulty("copy INDEX, j", x -> x.copy(0, 4, 0, -1, 1), -13, 3);
        faulty("copy INDEX, n", x -> x.copy(0, 4, 0, 0, -1), -13, 3);
        // no cell may have gone, though some of them could have
        faulty("copy INDEX, beyond the first", x -> x.copy(0, 3, 0, 0, 3), -13, 3);
        faulty("copy INDEX, beyond the other", x -> x.copy(0, 0, 0, 3, 3), -13, 3);
        faulty("as CAST", x -> x.as(1, 2), -12, 2);
    }

    private static void withoutYard() {
        List<ToLongFunction<VoteWalls>> calls = List.of(
            x -> x.ofPrisoner(0, 0), x -> x.law(1), x -> x.lock(0, 0, 0), x -> x.strike(0, 0, 0),
            x -> x.gap(0, 0), x -> x.cellOf(0, 0), x -> x.wide(0, 0), x -> x.with(0, 0), x -> x.meet(0, 1),
            x -> x.rests(), x -> x.apart(0, 1), x -> x.joined(0, 1), x -> x.pushed(0, 1, 0), x -> x.game(0),
            x -> x.knocks(0, 0, 1), x -> x.walk(0, 0, 0, 1), x -> x.reading(0, 0, 0), x -> x.struck(),
            x -> x.laws(), x -> x.stood(0), x -> x.odds(0, 1, 0, 0), x -> x.tell(0), x -> x.visit(0),
            x -> x.as(0, 0));
        for (int k = 0; k < calls.size(); k++) {
            VoteWalls x = new VoteWalls();
            x.sheet(0, 0, 5);
            String before = State.of(x);
            long answer = calls.get(k).applyAsLong(x);
            check.isTrue("call " + k + " is refused", answer == UNKNOWN || answer == STATE || answer == LOST);
            check.isTrue("call " + k + " changes nothing", State.of(x).equals(before));
        }
    }
}
