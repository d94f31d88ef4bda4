/** Boundary cases of promises 1, 3 to 8 and 37. */
public final class YardEdgesTest {
    private static final Check check = new Check("YardEdgesTest");
    private static final int[] NO_NUMBERS = {-1, Integer.MIN_VALUE, Integer.MAX_VALUE};

    public static void main(String[] args) {
        noYardAtFirst();
        sheetsHaveNothingAtFirst();
        whichPrisoner();
        whatOfPrisoner();
        votes();
        lawOutside();
        lawWithoutYard();
        lawThatItWas();
        lockOfNoBoard();
        lockFromTo();
        lockToItToo();
        locksFull();
        locksNumbered();
        locksOnOneBoard();
        unlockOutside();
        unlockTheLast();
        strikeOfNoPrisoner();
        strikeFromTo();
        strikeToItToo();
        strikesFull();
        strikesNumbered();
        strikesOfOne();
        eatOutside();
        eatTheLast();
        manyOutside();
        manyWithoutYard();
        manyAtMost();
        check.end();
    }

    private static void noYardAtFirst() {
        check.under("Promise 1", "No YARD (no BOARDS, PRISONERS)");
        VoteWalls x = new VoteWalls();
        check.due("gap(0, -1)", x.gap(0, -1), VoteWalls.UNKNOWN);
        check.due("wide(0, -1)", x.wide(0, -1), VoteWalls.UNKNOWN);
        check.due("lock(0, 0, 0)", x.lock(0, 0, 0), VoteWalls.UNKNOWN);
        check.due("reading(0, 0, 0)", x.reading(0, 0, 0), VoteWalls.UNKNOWN);
        check.due("pushed(0, 1, 0)", x.pushed(0, 1, 0), VoteWalls.UNKNOWN);
        check.due("ofPrisoner(0, 0)", x.ofPrisoner(0, 0), VoteWalls.UNKNOWN);
        check.due("strike(0, 0, 0)", x.strike(0, 0, 0), VoteWalls.UNKNOWN);
        check.due("cellOf(0, -1)", x.cellOf(0, -1), VoteWalls.UNKNOWN);
        check.due("with(0, -1)", x.with(0, -1), VoteWalls.UNKNOWN);
        check.due("meet(0, 0)", x.meet(0, 0), VoteWalls.UNKNOWN);
        check.due("apart(0, 1)", x.apart(0, 1), VoteWalls.UNKNOWN);
        check.due("joined(0, 1)", x.joined(0, 1), VoteWalls.UNKNOWN);
        check.due("knocks(0, 0, 0)", x.knocks(0, 0, 0), VoteWalls.UNKNOWN);
        check.due("stood(0)", x.stood(0), VoteWalls.UNKNOWN);
        check.due("odds(0, 0, 0, 0)", x.odds(0, 0, 0, 0), VoteWalls.LOST);
        check.due("tell(0)", x.tell(0), VoteWalls.UNKNOWN);
        check.due("visit(0)", x.visit(0), VoteWalls.UNKNOWN);
        check.due("as(0, 0)", x.as(0, 0), VoteWalls.UNKNOWN);
        check.due("law(0)", x.law(0), VoteWalls.STATE);
        check.due("rests()", x.rests(), VoteWalls.STATE);
        check.due("game(0)", x.game(0), VoteWalls.STATE);
        check.due("struck()", x.struck(), VoteWalls.STATE);
        check.due("laws()", x.laws(), VoteWalls.STATE);
        check.due("unlock(0)", x.unlock(0), 0);
        check.due("eat(0)", x.eat(0), 0);
        check.due("back(0)", x.back(0), 0);
        check.due("unlock(1)", x.unlock(1), VoteWalls.OUTSIDE);
        check.due("eat(1)", x.eat(1), VoteWalls.OUTSIDE);
        check.due("back(1)", x.back(1), VoteWalls.OUTSIDE);
    }

    private static void sheetsHaveNothingAtFirst() {
        check.under("Promise 1", "SHEETS have nothing");
        for (int k = 0; k < 4; k++) {
            VoteWalls x = new VoteWalls();
            check.due("fault() ahead of any", x.fault(), 0);
            check.due("trace() at first", x.trace(), 0);
            check.due("put(" + k + ", 0, 1)", x.put(k, 0, 1), -11);
            check.due("cell(" + k + ", 0, 0)", x.cell(k, 0, 0), VoteWalls.LOST);
            check.due("fault()", x.fault(), 1);
            check.due("lose(" + k + ")", x.lose(k), 0);
            check.due("walk(" + k + ", 0, 0, 0)", x.walk(k, 0, 0, 0), -11);
        }
    }

    private static void whichPrisoner() {
        check.under("Promise 3", "UNKNOWN");
        VoteWalls x = Check.yardOf("v10;05,p00,p01,p02,p03,p04,p05,p06,t07");
        check.due("the first one", x.ofPrisoner(0, 1), 0);
        check.due("the eighth one", x.ofPrisoner(7, 1), 7);
        check.due("a ninth one", x.ofPrisoner(8, 1), VoteWalls.UNKNOWN);
        check.due("behind the last one", Check.yardOf("v10;05,p00").ofPrisoner(1, 1), VoteWalls.UNKNOWN);
        for (int p : NO_NUMBERS) {
            check.due("ofPrisoner(" + p + ", 1)", x.ofPrisoner(p, 1), VoteWalls.UNKNOWN);
            check.due("UNKNOWN ahead of OUTSIDE", x.ofPrisoner(p, 3), VoteWalls.UNKNOWN);
        }
    }

    private static void whatOfPrisoner() {
        check.under("Promise 3", "0 kind, 1 PLACE, 2 VOTES; OUTSIDE");
        VoteWalls x = Check.yardOf("v10;05,t09");
        check.due("ofPrisoner(0, 0)", x.ofPrisoner(0, 0), 1);
        check.due("ofPrisoner(0, 1)", x.ofPrisoner(0, 1), 9);
        check.due("ofPrisoner(0, 2)", x.ofPrisoner(0, 2), 2);
        check.due("ofPrisoner(0, 3)", x.ofPrisoner(0, 3), VoteWalls.OUTSIDE);
        for (int what : NO_NUMBERS) {
            check.due("ofPrisoner(0, " + what + ")", x.ofPrisoner(0, what), VoteWalls.OUTSIDE);
        }
    }

    private static void votes() {
        check.under("section 1", "VOTES: a PRISONER 1; a TALL one 1 more; a BULLY twice what a TALL one has");
        VoteWalls x = Check.yardOf("v10;05,p09,t09,b09");
        check.due("a PRISONER", x.ofPrisoner(0, 2), 1);
        check.due("a TALL one", x.ofPrisoner(1, 2), 2);
        check.due("a BULLY", x.ofPrisoner(2, 2), 4);
        // one more or less than that, and the board would move
        check.due("a TALL one against two", Check.yardOf("v10;05,t04,p05,p05").gap(0, 49), 5);
        check.due("a BULLY against two TALL ones", Check.yardOf("v10;05,b04,t05,t05").gap(0, 49), 5);
        check.due("a BULLY against four", Check.yardOf("v10;05,b04,p05,p05,p05,p05").gap(0, 49), 5);
    }

    private static void lawOutside() {
        check.under("Promise 4", "OUTSIDE");
        VoteWalls x = Check.yardOf("v10;05,p02");
        check.due("law(2)", x.law(2), VoteWalls.OUTSIDE);
        for (int v : NO_NUMBERS) {
            check.due("law(" + v + ")", x.law(v), VoteWalls.OUTSIDE);
        }
        check.due("the law as it was", x.many(6), 0);
    }

    private static void lawWithoutYard() {
        check.under("Promise 4", "STATE: there is no YARD");
        VoteWalls x = new VoteWalls();
        check.due("law(0)", x.law(0), VoteWalls.STATE);
        check.due("law(1)", x.law(1), VoteWalls.STATE);
        check.due("OUTSIDE ahead of STATE: law(-1)", x.law(-1), VoteWalls.OUTSIDE);
        check.due("OUTSIDE ahead of STATE: law(2)", x.law(2), VoteWalls.OUTSIDE);
        check.due("no law came of it", x.many(6), 0);
        check.due("yard", Check.give(x, "v10;05,p02"), 1);
        check.due("law(1) with a yard", x.law(1), 0);
    }

    private static void lawThatItWas() {
        check.under("Promise 4", "The LAW becomes v: what it was");
        VoteWalls x = Check.yardOf("v10;05,p02");
        check.due("0 to 0", x.law(0), 0);
        check.due("0 to 1", x.law(1), 0);
        check.due("1 to 1", x.law(1), 1);
        check.due("1 to 0", x.law(0), 1);
        check.due("many(6)", x.many(6), 0);
    }

    private static void lockOfNoBoard() {
        check.under("Promise 5", "UNKNOWN: BOARD");
        VoteWalls x = Check.yardOf("v10;01;02;03;04;05,p02");
        check.due("the first one", x.lock(0, 0, 0), 0);
        check.due("the fifth one", x.lock(4, 0, 0), 1);
        check.due("a sixth one", x.lock(5, 0, 0), VoteWalls.UNKNOWN);
        check.due("behind the last one", Check.yardOf("v10;05,p02").lock(1, 0, 0), VoteWalls.UNKNOWN);
        for (int b : NO_NUMBERS) {
            check.due("lock(" + b + ", 0, 0)", x.lock(b, 0, 0), VoteWalls.UNKNOWN);
            check.due("UNKNOWN ahead of OUTSIDE", x.lock(b, 1, 0), VoteWalls.UNKNOWN);
        }
        check.due("many(3)", x.many(3), 2);
    }

    private static void lockFromTo() {
        check.under("Promise 5", "OUTSIDE: from, to (not below from)");
        VoteWalls x = Check.yardOf("v10;05,p02");
        int[][] wrong = {{-1, 0}, {-1, -1}, {0, 50}, {50, 50}, {49, 48}, {1, 0}, {0, -1},
            {Integer.MIN_VALUE, 49}, {0, Integer.MAX_VALUE}, {Integer.MAX_VALUE, Integer.MIN_VALUE}};
        for (int[] span : wrong) {
            check.due("lock(0, " + span[0] + ", " + span[1] + ")", x.lock(0, span[0], span[1]), VoteWalls.OUTSIDE);
        }
        check.due("none came of it", x.many(3), 0);
        check.due("lock(0, 0, 0)", x.lock(0, 0, 0), 0);
        check.due("lock(0, 0, 49)", x.lock(0, 0, 49), 1);
        check.due("lock(0, 49, 49)", x.lock(0, 49, 49), 2);
        check.due("lock(0, 48, 49)", x.lock(0, 48, 49), 3);
    }

    private static void lockToItToo() {
        check.under("section 2", "on a BOARD from a SUNDAY to another one (it, too)");
        VoteWalls x = Check.yardOf("v10;05,p02");
        x.lock(0, 1, 3);
        int[] due = {5, 6, 6, 6, 6, 7, 8, 9, 9};
        for (int s = -1; s < 8; s++) {
            check.due("locked 1 to 3: gap(0, " + s + ")", x.gap(0, s), due[s + 1]);
        }
        VoteWalls one = Check.yardOf("v10;05,p02");
        one.lock(0, 0, 0);
        check.due("locked on 0 alone: gap(0, 0)", one.gap(0, 0), 5);
        check.due("locked on 0 alone: gap(0, 1)", one.gap(0, 1), 6);
        VoteWalls other = Check.yardOf("v10;05;07,p02,p09");
        other.lock(1, 0, 49);
        check.due("another board is not locked by it", other.gap(0, 0), 6);
        check.due("but that one is", other.gap(1, 49), 7);
    }

    private static void locksFull() {
        check.under("Promise 5", "FULL");
        VoteWalls x = Check.yardOf("v10;05,p02");
        for (int k = 0; k < 6; k++) {
            check.due("lock " + k, x.lock(0, 40 + k, 40 + k), k);
        }
        check.due("a seventh one", x.lock(0, 0, 49), VoteWalls.FULL);
        check.due("UNKNOWN ahead of FULL", x.lock(1, 0, 49), VoteWalls.UNKNOWN);
        check.due("OUTSIDE ahead of FULL", x.lock(0, 0, 50), VoteWalls.OUTSIDE);
        check.due("many(3)", x.many(3), 6);
        check.due("the seventh one locks nothing", x.gap(0, 0), 6);
        check.due("strikes are not full by it", x.strike(0, 0, 0), 0);
    }

    private static void locksNumbered() {
        check.under("section 2", "LOCKS, 6 at most, numbered by how many there are");
        VoteWalls x = Check.yardOf("v10;05,p02");
        x.lock(0, 1, 1);
        x.lock(0, 2, 2);
        x.lock(0, 3, 3);
        check.due("unlock(2)", x.unlock(2), 1);
        check.due("the next one", x.lock(0, 4, 4), 1);
        check.due("and the next one", x.lock(0, 5, 5), 2);
        int[] due = {6, 6, 7, 8, 8, 8, 9};
        for (int s = 0; s < due.length; s++) {
            check.due("gap(0, " + s + ")", x.gap(0, s), due[s]);
        }
        check.due("unlock(3)", x.unlock(3), 0);
        for (int k = 0; k < 6; k++) {
            check.due("six once more: " + k, x.lock(0, 9, 9), k);
        }
        check.due("a seventh one", x.lock(0, 9, 9), VoteWalls.FULL);
    }

    private static void locksOnOneBoard() {
        check.under("Promise 6", "The last k LOCKS are taken off");
        VoteWalls x = Check.yardOf("v10;05,p02");
        x.lock(0, 0, 2);
        x.lock(0, 1, 4);
        check.due("locked by both", x.gap(0, 4), 5);
        x.unlock(1);
        check.due("still locked by the first one", x.gap(0, 2), 5);
        check.due("and by no other one", x.gap(0, 3), 6);
    }

    private static void unlockOutside() {
        check.under("Promise 6", "k (0 .. as many as there are); OUTSIDE");
        VoteWalls x = Check.yardOf("v10;05,p02");
        check.due("none of none", x.unlock(0), 0);
        check.due("one of none", x.unlock(1), VoteWalls.OUTSIDE);
        x.lock(0, 0, 0);
        x.lock(0, 1, 1);
        check.due("none of two", x.unlock(0), 2);
        check.due("three of two", x.unlock(3), VoteWalls.OUTSIDE);
        for (int k : NO_NUMBERS) {
            check.due("unlock(" + k + ")", x.unlock(k), VoteWalls.OUTSIDE);
        }
        check.due("both are there", x.gap(0, 1), 5);
        check.due("two of two", x.unlock(2), 0);
        check.due("one more", x.unlock(1), VoteWalls.OUTSIDE);
        check.due("all are off", x.gap(0, 1), 7);
    }

    private static void unlockTheLast() {
        check.under("Promise 6", "The last k LOCKS: how many are left");
        VoteWalls x = Check.yardOf("v10;05,p02");
        x.lock(0, 0, 0);
        x.lock(0, 1, 1);
        x.lock(0, 2, 2);
        check.due("gap(0, 2)", x.gap(0, 2), 5);
        check.due("unlock(1)", x.unlock(1), 2);
        check.due("the last one is off", x.gap(0, 2), 6);
        check.due("the others are not", x.gap(0, 1), 5);
        check.due("unlock(1) again", x.unlock(1), 1);
        check.due("the first one is not", x.gap(0, 0), 5);
        check.due("the second one is off", x.gap(0, 1), 6);
    }

    private static void strikeOfNoPrisoner() {
        check.under("Promise 7", "UNKNOWN: PRISONER");
        VoteWalls x = Check.yardOf("v10;05,p00,p01,p02,p03,p04,p05,p06,t07");
        check.due("the first one", x.strike(0, 0, 0), 0);
        check.due("the eighth one", x.strike(7, 0, 0), 1);
        check.due("a ninth one", x.strike(8, 0, 0), VoteWalls.UNKNOWN);
        check.due("behind the last one", Check.yardOf("v10;05,p02").strike(1, 0, 0), VoteWalls.UNKNOWN);
        for (int p : NO_NUMBERS) {
            check.due("strike(" + p + ", 0, 0)", x.strike(p, 0, 0), VoteWalls.UNKNOWN);
            check.due("UNKNOWN ahead of OUTSIDE", x.strike(p, 1, 0), VoteWalls.UNKNOWN);
        }
        check.due("many(4)", x.many(4), 2);
    }

    private static void strikeFromTo() {
        check.under("Promise 7", "OUTSIDE: from, to (not below from)");
        VoteWalls x = Check.yardOf("v10;05,p02");
        int[][] wrong = {{-1, 0}, {-1, -1}, {0, 50}, {50, 50}, {49, 48}, {1, 0}, {0, -1},
            {Integer.MIN_VALUE, 49}, {0, Integer.MAX_VALUE}, {Integer.MAX_VALUE, Integer.MIN_VALUE}};
        for (int[] span : wrong) {
            check.due("strike(0, " + span[0] + ", " + span[1] + ")", x.strike(0, span[0], span[1]), VoteWalls.OUTSIDE);
        }
        check.due("none came of it", x.many(4), 0);
        check.due("strike(0, 0, 0)", x.strike(0, 0, 0), 0);
        check.due("strike(0, 0, 49)", x.strike(0, 0, 49), 1);
        check.due("strike(0, 49, 49)", x.strike(0, 49, 49), 2);
        check.due("strike(0, 48, 49)", x.strike(0, 48, 49), 3);
    }

    private static void strikeToItToo() {
        check.under("section 2", "of a PRISONER, likewise");
        VoteWalls x = Check.yardOf("v10;05,p02");
        x.strike(0, 1, 3);
        int[] due = {5, 6, 6, 6, 6, 7, 8, 9, 9};
        for (int s = -1; s < 8; s++) {
            check.due("on strike 1 to 3: gap(0, " + s + ")", x.gap(0, s), due[s + 1]);
        }
        VoteWalls last = Check.yardOf("v10;05,p02,p07");
        last.strike(1, 49, 49);
        check.due("on strike on 49 alone: gap(0, 48)", last.gap(0, 48), 5);
        check.due("on strike on 49 alone: gap(0, 49)", last.gap(0, 49), 6);
    }

    private static void strikesFull() {
        check.under("Promise 7", "FULL");
        VoteWalls x = Check.yardOf("v10;05,p02");
        for (int k = 0; k < 6; k++) {
            check.due("strike " + k, x.strike(0, 40 + k, 40 + k), k);
        }
        check.due("a seventh one", x.strike(0, 0, 49), VoteWalls.FULL);
        check.due("UNKNOWN ahead of FULL", x.strike(1, 0, 49), VoteWalls.UNKNOWN);
        check.due("OUTSIDE ahead of FULL", x.strike(0, 0, 50), VoteWalls.OUTSIDE);
        check.due("many(4)", x.many(4), 6);
        check.due("the seventh one is no strike", x.gap(0, 0), 6);
        check.due("locks are not full by it", x.lock(0, 0, 0), 0);
    }

    private static void strikesNumbered() {
        check.under("section 2", "STRIKES, 6 at most, numbered likewise");
        VoteWalls x = Check.yardOf("v10;05,p02");
        x.strike(0, 1, 1);
        x.strike(0, 2, 2);
        x.strike(0, 3, 3);
        check.due("eat(2)", x.eat(2), 1);
        check.due("the next one", x.strike(0, 4, 4), 1);
        check.due("and the next one", x.strike(0, 5, 5), 2);
        int[] due = {6, 6, 7, 8, 8, 8, 9};
        for (int s = 0; s < due.length; s++) {
            check.due("gap(0, " + s + ")", x.gap(0, s), due[s]);
        }
        check.due("eat(3)", x.eat(3), 0);
        for (int k = 0; k < 6; k++) {
            check.due("six once more: " + k, x.strike(0, 9, 9), k);
        }
        check.due("a seventh one", x.strike(0, 9, 9), VoteWalls.FULL);
    }

    private static void strikesOfOne() {
        check.under("Promise 8", "The last k STRIKES are taken back");
        VoteWalls x = Check.yardOf("v10;05,p02");
        x.strike(0, 0, 2);
        x.strike(0, 1, 4);
        check.due("on strike by both", x.gap(0, 4), 5);
        x.eat(1);
        check.due("still on strike by the first one", x.gap(0, 2), 5);
        check.due("and by no other one", x.gap(0, 3), 6);
    }

    private static void eatOutside() {
        check.under("Promise 8", "k (0 .. as many as there are); OUTSIDE");
        VoteWalls x = Check.yardOf("v10;05,p02");
        check.due("none of none", x.eat(0), 0);
        check.due("one of none", x.eat(1), VoteWalls.OUTSIDE);
        x.strike(0, 0, 0);
        x.strike(0, 1, 1);
        check.due("none of two", x.eat(0), 2);
        check.due("three of two", x.eat(3), VoteWalls.OUTSIDE);
        for (int k : NO_NUMBERS) {
            check.due("eat(" + k + ")", x.eat(k), VoteWalls.OUTSIDE);
        }
        check.due("both are there", x.gap(0, 1), 5);
        check.due("two of two", x.eat(2), 0);
        check.due("one more", x.eat(1), VoteWalls.OUTSIDE);
        check.due("all eat", x.gap(0, 1), 7);
    }

    private static void eatTheLast() {
        check.under("Promise 8", "The last k STRIKES: how many are left");
        VoteWalls x = Check.yardOf("v10;05,p02");
        x.strike(0, 0, 0);
        x.strike(0, 1, 1);
        x.strike(0, 2, 2);
        check.due("gap(0, 2)", x.gap(0, 2), 5);
        check.due("eat(1)", x.eat(1), 2);
        check.due("the last one is taken back", x.gap(0, 2), 6);
        check.due("the others are not", x.gap(0, 1), 5);
        check.due("eat(1) again", x.eat(1), 1);
        check.due("the first one is not", x.gap(0, 0), 5);
        check.due("the second one is", x.gap(0, 1), 6);
    }

    private static void manyOutside() {
        check.under("Promise 37", "OUTSIDE");
        VoteWalls x = Check.yardOf("v10;05,p02");
        check.due("many(7)", x.many(7), VoteWalls.OUTSIDE);
        check.due("many(7) without a yard", new VoteWalls().many(7), VoteWalls.OUTSIDE);
        for (int what : NO_NUMBERS) {
            check.due("many(" + what + ")", x.many(what), VoteWalls.OUTSIDE);
            check.due("many(" + what + ") without a yard", new VoteWalls().many(what), VoteWalls.OUTSIDE);
        }
    }

    private static void manyWithoutYard() {
        check.under("Promise 37", "0 all without a YARD");
        VoteWalls x = new VoteWalls();
        // none of these is taken, so there is still nothing to be counted
        x.lock(0, 0, 0);
        x.strike(0, 0, 0);
        x.reading(0, 0, 0);
        x.law(1);
        Check.give(x, "v10;05,p02,");
        Check.give(x, "v10;05;06");
        for (int what = 0; what <= 6; what++) {
            check.due("many(" + what + ")", x.many(what), 0);
        }
    }

    private static void manyAtMost() {
        check.under("Promise 37", "0 PRISONERS, 1 BOARDS, 2 INCHES, 3 LOCKS, 4 STRIKES, 5 READINGS, 6 the LAW");
        VoteWalls x = Check.yardOf("v30;01;02;03;04;29,p00,t01,b02,p03,t04,b29,p29,p29");
        x.law(1);
        for (int k = 0; k < 9; k++) {
            x.lock(0, k, k);
            x.strike(0, k, k);
            x.reading(0, k, 1);
        }
        int[] due = {8, 5, 30, 6, 6, 8, 1};
        for (int what = 0; what <= 6; what++) {
            check.due("many(" + what + ")", x.many(what), due[what]);
        }
        VoteWalls least = Check.yardOf("v04;01,p00");
        int[] few = {1, 1, 4, 0, 0, 0, 0};
        for (int what = 0; what <= 6; what++) {
            check.due("least: many(" + what + ")", least.many(what), few[what]);
        }
    }
}
