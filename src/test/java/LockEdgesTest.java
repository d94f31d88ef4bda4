/** Boundary cases of promises 15 to 20 and of section 3 ahead of them. */
public final class LockEdgesTest {
    private static final Check check = new Check("LockEdgesTest");
    private static final int[] NO_NUMBERS = {-1, Integer.MIN_VALUE, Integer.MAX_VALUE};
    private static final int[] NO_SUNDAYS = {-1, 50, Integer.MIN_VALUE, Integer.MAX_VALUE};
    private static final String EIGHT = "v10;05,p00,p01,p02,p03,p04,p05,p06,p07";
    /** Each is in a cell of his own with one vote, so that nothing moves. */
    private static final String STILL = "v12;03;06;09,p00,p03,p06,p09";

    public static void main(String[] args) {
        apartUnknown();
        apartByNoBoard();
        apartByTheFewest();
        apartTheLeast();
        apartTheFewestAheadOfTheLeast();
        apartNone();
        apartOnAllSundays();
        apartBesidesLocks();
        joinedUnknown();
        joinedByNoBoard();
        joinedByABoard();
        joinedNot();
        joinedOnTheLastSunday();
        pushedUnknown();
        pushedGap();
        pushedSunday();
        pushedByNobody();
        pushedByAll();
        pushedTheFewestAndLeast();
        pushedNone();
        gameOutside();
        gameWithoutYard();
        gameOfOneBoard();
        gameTheLeastBoard();
        gameBySunday49();
        gameOneIsAlwaysOnStrike();
        knocksUnknown();
        knocksOutside();
        knocksHimself();
        knocksInOneCellOrBeside();
        knocksTillThen();
        knocksNever();
        walkOfNone();
        walkFromCell0();
        walkBeside();
        walkTwoWide();
        walkAboveFifty();
        walkOfNoCell();
        walkRefusalsInOrder();
        walkFaults();
        check.end();
    }

    // ---- APART

    private static void apartUnknown() {
        check.under("Promise 15", "UNKNOWN (they are one: so, too)");
        VoteWalls x = Check.yardOf(EIGHT);
        check.due("apart(0, 7)", x.apart(0, 7), 1);
        check.due("apart(8, 0)", x.apart(8, 0), VoteWalls.UNKNOWN);
        check.due("apart(0, 8)", x.apart(0, 8), VoteWalls.UNKNOWN);
        for (int p : NO_NUMBERS) {
            check.due("apart(" + p + ", 0)", x.apart(p, 0), VoteWalls.UNKNOWN);
            check.due("apart(0, " + p + ")", x.apart(0, p), VoteWalls.UNKNOWN);
        }
        for (int p = 0; p < 8; p++) {
            check.due("apart(" + p + ", " + p + ")", x.apart(p, p), VoteWalls.UNKNOWN);
        }
        check.due("none twice", x.apart(8, 8), VoteWalls.UNKNOWN);
    }

    private static void apartByNoBoard() {
        check.under("Promise 15", "APART, as a set");
        check.due("no board is needed", Check.yardOf(STILL).apart(0, 3), 0);
        check.due("nor for neighbours", Check.yardOf(STILL).apart(1, 2), 0);
    }

    private static boolean keepsApart(VoteWalls x, int set, int p, int other) {
        int locks = 0;
        for (int b = 0; b < x.many(1); b++) {
            if ((set >> b & 1) == 1) {
                x.lock(b, 0, 49);
                locks++;
            }
        }
        boolean apart = x.meet(p, other) == VoteWalls.NONE;
        x.unlock(locks);
        return apart;
    }

    private static void apartByTheFewest() {
        check.under("section 3", "APART for two: the fewest BOARDS");
        VoteWalls x = Check.yardOf("v14;07;09;11,p10,p09,t00,p03,b07,b03");
        for (int set = 0; set < 8; set++) {
            check.isTrue("two boards are needed: " + set, keepsApart(x, set, 0, 1) == (set == 5));
        }
        check.due("both", x.apart(0, 1), 5);
        check.due("either way round", x.apart(1, 0), 5);
    }

    private static void apartTheLeast() {
        check.under("section 3", "as a set: of several the least");
        VoteWalls x = Check.yardOf("v09;01;06;07,t01,b06,b02");
        boolean[] due = {false, false, true, true, true, true, true, true};
        for (int set = 0; set < 8; set++) {
            check.isTrue("each of boards 1 and 2 does: " + set, keepsApart(x, set, 0, 1) == due[set]);
        }
        check.due("board 1", x.apart(0, 1), 2);
    }

    private static void apartTheFewestAheadOfTheLeast() {
        check.under("section 3", "the fewest BOARDS .. as a set: of several the least");
        // 2 and 7 are in one cell at first, and a board comes between them on Sunday 0
        VoteWalls x = Check.yardOf("v18;04;06;08;14,t05,p04,p06,b13,b15,b02,p17,p07");
        x.strike(7, 16, 33);
        for (int set = 0; set < 5; set++) {
            check.isTrue("not by " + set, !keepsApart(x, set, 2, 7));
        }
        check.isTrue("by boards 0 and 2", keepsApart(x, 5, 2, 7));
        check.isTrue("by board 3 alone", keepsApart(x, 8, 2, 7));
        check.due("one board, though 5 is less than 8", x.apart(2, 7), 8);
    }

    private static void apartNone() {
        check.under("section 3", "NONE: by none");
        check.due("at one place", Check.yardOf("v10;05,p02,p02").apart(0, 1), VoteWalls.NONE);
        check.due("in one cell, whatever is locked", Check.yardOf("v10;05,p01,p02,p07").apart(0, 1), VoteWalls.NONE);
    }

    private static void apartOnAllSundays() {
        check.under("section 3", "they are in one CELL at the end of no SUNDAY (0 .. 49)");
        VoteWalls last = Check.yardOf("v10;05,p05,t01");
        last.lock(0, 0, 48);
        check.due("but for Sunday 49", last.apart(0, 1), 1);
        last.unlock(1);
        last.lock(0, 1, 49);
        check.due("but for Sunday 0", last.apart(0, 1), 1);
        // together at first alone: that is no end of a SUNDAY
        check.due("together at first alone", Check.yardOf("v10;05,p04,b05,p00").apart(0, 2), 0);
    }

    private static void apartBesidesLocks() {
        check.under("section 3", "LOCKED on all SUNDAYS (besides all LOCKS)");
        VoteWalls x = Check.yardOf("v10;05,p05,t01");
        check.due("by the board", x.apart(0, 1), 1);
        x.lock(0, 0, 49);
        check.due("it is locked as it is", x.apart(0, 1), 0);
        check.due("locks stay as they are", x.many(3), 1);
        for (int k = 1; k < 6; k++) {
            x.lock(0, 0, 49);
        }
        check.due("also where six are told", x.apart(0, 1), 0);
    }

    // ---- JOINED

    private static void joinedUnknown() {
        check.under("Promise 16", "UNKNOWN (they are one: so, too)");
        VoteWalls x = Check.yardOf(EIGHT);
        check.due("joined(0, 7)", x.joined(0, 7), 1);
        check.due("joined(8, 0)", x.joined(8, 0), VoteWalls.UNKNOWN);
        check.due("joined(0, 8)", x.joined(0, 8), VoteWalls.UNKNOWN);
        for (int p : NO_NUMBERS) {
            check.due("joined(" + p + ", 0)", x.joined(p, 0), VoteWalls.UNKNOWN);
            check.due("joined(0, " + p + ")", x.joined(0, p), VoteWalls.UNKNOWN);
        }
        for (int p = 0; p < 8; p++) {
            check.due("joined(" + p + ", " + p + ")", x.joined(p, p), VoteWalls.UNKNOWN);
        }
        check.due("none twice", x.joined(8, 8), VoteWalls.UNKNOWN);
    }

    private static void joinedByNoBoard() {
        check.under("section 3", "JOINED: by some set of BOARDS that are LOCKED so (none, too)");
        check.due("by none", Check.yardOf("v10;05,p05,t01").joined(0, 1), 1);
        check.due("at one place", Check.yardOf("v10;05,p02,p02").joined(0, 1), 1);
    }

    private static void joinedByABoard() {
        check.under("section 3", "JOINED: by some set of BOARDS that are LOCKED so");
        VoteWalls x = Check.yardOf("v12;03;07,t00,p05,b11");
        check.due("not as it is", x.meet(0, 1), VoteWalls.NONE);
        check.due("by board 1", x.joined(0, 1), 1);
        // by all boards: they are in one cell at first, and only then stay so
        VoteWalls all = Check.yardOf("v10;05,p04,b05,p00");
        check.due("not as it is", all.meet(0, 2), VoteWalls.NONE);
        check.due("by all boards", all.joined(0, 2), 1);
    }

    private static void joinedNot() {
        check.under("Promise 16", "JOINED: 1, 0");
        check.due("by no set", Check.yardOf(STILL).joined(0, 3), 0);
        check.due("nor neighbours", Check.yardOf(STILL).joined(1, 2), 0);
    }

    private static void joinedOnTheLastSunday() {
        check.under("section 3", "at the end of some SUNDAY");
        VoteWalls x = Check.yardOf("v10;05,p05,t01");
        x.lock(0, 0, 48);
        check.due("on Sunday 49", x.joined(0, 1), 1);
        x.lock(0, 49, 49);
        check.due("locked on all Sundays", x.joined(0, 1), 0);
    }

    // ---- PUSHED

    private static void pushedUnknown() {
        check.under("Promise 17", "UNKNOWN");
        VoteWalls x = Check.yardOf("v10;01;02;03;04;05,p09");
        check.due("the first one", x.pushed(0, 1, 0), 0);
        check.due("the fifth one", x.pushed(4, 5, 0), 0);
        check.due("a sixth one", x.pushed(5, 5, 0), VoteWalls.UNKNOWN);
        check.due("behind the last one", Check.yardOf("v10;05,p02").pushed(1, 5, 0), VoteWalls.UNKNOWN);
        for (int b : NO_NUMBERS) {
            check.due("pushed(" + b + ", 5, 0)", x.pushed(b, 5, 0), VoteWalls.UNKNOWN);
            check.due("UNKNOWN ahead of OUTSIDE", x.pushed(b, 0, 50), VoteWalls.UNKNOWN);
        }
        check.due("without a yard", new VoteWalls().pushed(0, 0, 0), VoteWalls.UNKNOWN);
    }

    private static void pushedGap() {
        check.under("Promise 17", "OUTSIDE: gap (1 .. INCHES less 1)");
        VoteWalls x = Check.yardOf("v10;05,p02,t08");
        check.due("gap 0", x.pushed(0, 0, 49), VoteWalls.OUTSIDE);
        check.due("gap 1", x.pushed(0, 1, 49), 0);
        check.due("gap 9", x.pushed(0, 9, 49), 2);
        check.due("gap 10", x.pushed(0, 10, 49), VoteWalls.OUTSIDE);
        for (int gap : NO_NUMBERS) {
            check.due("gap " + gap, x.pushed(0, gap, 49), VoteWalls.OUTSIDE);
        }
        check.due("gap 29 of 30", Check.yardOf("v30;28,p00").pushed(0, 29, 0), 0);
        check.due("gap 30 of 30", Check.yardOf("v30;28,p00").pushed(0, 30, 0), VoteWalls.OUTSIDE);
        check.due("gap 3 of 4", Check.yardOf("v04;03,p00").pushed(0, 3, 0), 0);
        check.due("gap 4 of 4", Check.yardOf("v04;03,p00").pushed(0, 4, 0), VoteWalls.OUTSIDE);
    }

    private static void pushedSunday() {
        check.under("Promise 17", "OUTSIDE: sunday");
        VoteWalls x = Check.yardOf("v10;05,p02");
        for (int s : NO_SUNDAYS) {
            check.due("sunday " + s, x.pushed(0, 5, s), VoteWalls.OUTSIDE);
        }
        check.due("sunday 0", x.pushed(0, 6, 0), 0);
        x.lock(0, 0, 48);
        check.due("not yet on 48", x.pushed(0, 6, 48), VoteWalls.NONE);
        check.due("sunday 49", x.pushed(0, 6, 49), 0);
    }

    private static void pushedByNobody() {
        check.under("Promise 17", "PUSHED, as a set");
        check.due("nobody is needed", Check.yardOf("v10;05,p02").pushed(0, 6, 0), 0);
    }

    private static void pushedByAll() {
        check.under("section 3", "PUSHED: the fewest PRISONERS on STRIKE on all SUNDAYS");
        VoteWalls x = Check.yardOf("v10;05,p00,p00,p00,p00,p00,p00,p00,p00");
        check.due("all eight", x.pushed(0, 5, 0), 255);
        x.strike(3, 0, 49);
        check.due("(besides all STRIKES)", x.pushed(0, 5, 0), 247);
        x.eat(1);
        x.strike(3, 0, 48);
        check.due("he is needed on 49", x.pushed(0, 5, 49), 255);
    }

    private static void pushedTheFewestAndLeast() {
        check.under("section 3", "PUSHED: as a set: of several the least");
        VoteWalls x = Check.yardOf("v10;05,p05,p03,p04");
        check.due("one of two", x.pushed(0, 5, 0), 2);
        VoteWalls few = Check.yardOf("v10;05,b04,t06,t07,b08");
        check.due("one (8) ahead of two (6)", few.pushed(0, 5, 0), 8);
    }

    private static void pushedNone() {
        check.under("section 3", "PUSHED: NONE: by none");
        check.due("too far for the first Sunday", Check.yardOf("v10;05,p02").pushed(0, 7, 0), VoteWalls.NONE);
        check.due("nobody pushes so", Check.yardOf("v10;05,p02").pushed(0, 4, 49), VoteWalls.NONE);
        VoteWalls locked = Check.yardOf("v10;05,p02");
        locked.lock(0, 0, 49);
        check.due("locked", locked.pushed(0, 6, 49), VoteWalls.NONE);
    }

    // ---- GAME

    private static void gameOutside() {
        check.under("Promise 18", "how WIDE (what 0), the BOARD (1); OUTSIDE");
        VoteWalls x = Check.yardOf("v10;05,p02");
        check.due("game(0)", x.game(0), 5);
        check.due("game(1)", x.game(1), 0);
        check.due("game(2)", x.game(2), VoteWalls.OUTSIDE);
        for (int what : NO_NUMBERS) {
            check.due("game(" + what + ")", x.game(what), VoteWalls.OUTSIDE);
        }
    }

    private static void gameWithoutYard() {
        check.under("Promise 18", "STATE: there is no YARD");
        VoteWalls x = new VoteWalls();
        check.due("game(0)", x.game(0), VoteWalls.STATE);
        check.due("game(1)", x.game(1), VoteWalls.STATE);
        check.due("OUTSIDE ahead of STATE: game(2)", x.game(2), VoteWalls.OUTSIDE);
        check.due("OUTSIDE ahead of STATE: game(-1)", x.game(-1), VoteWalls.OUTSIDE);
    }

    private static void gameOfOneBoard() {
        check.under("section 3", "GAME: a warder LOCKS one BOARD on all SUNDAYS");
        check.due("the least yard", Check.yardOf("v04;01,p03").game(0), 1);
        check.due("the only board is locked", Check.yardOf("v30;29,b00,b01").game(0), 29);
        // unlocked it would go to 1, but the warder has to lock one
        check.due("he locks one, though none were less WIDE", Check.yardOf("v10;05,p07,p08").game(0), 5);
    }

    private static void gameTheLeastBoard() {
        check.under("section 3", "GAME: the BOARD: of several the least");
        check.due("all alike", Check.yardOf("v12;01;03;05;07;09,t11").game(1), 0);
        check.due("all alike: how WIDE", Check.yardOf("v12;01;03;05;07;09,t11").game(0), 1);
        // if board 0 is not locked, the one who is not on strike pushes it to 1
        VoteWalls x = Check.yardOf("v12;04;08;10,p05,p05");
        check.due("board 1 or 2: how WIDE", x.game(0), 1);
        check.due("board 1 or 2", x.game(1), 1);
    }

    private static void gameBySunday49() {
        check.under("section 3", "GAME: becomes the least WIDE by SUNDAY 49");
        VoteWalls x = Check.yardOf("v10;05;07,b06,t06");
        x.lock(0, 0, 48);
        check.due("it moves on 49", x.game(0), 4);
        check.due("board 1", x.game(1), 1);
        x.lock(0, 49, 49);
        check.due("it never moves", x.game(0), 5);
        check.due("board 0", x.game(1), 0);
        check.due("locks stay as they are", x.many(3), 2);
    }

    private static void gameOneIsAlwaysOnStrike() {
        check.under("section 3", "GAME: then all let one PRISONER STRIKE, so that it becomes the most");
        // the only one who pushes board 0 to the left is on strike
        VoteWalls x = Check.yardOf("v12;04;08,b05");
        check.due("how WIDE", x.game(0), 4);
        check.due("the BOARD", x.game(1), 0);
        // p01 and b05: without the bully p01 pushes board 0 up to 7, where board 1 is locked
        VoteWalls y = Check.yardOf("v12;04;08,p01,b05");
        check.due("the warder locks board 0", y.game(1), 0);
        check.due("it stays 4 WIDE", y.game(0), 4);
        check.due("strikes stay as they are", y.many(4), 0);
        // if nobody were on strike, cell 0 would be wider than with any one of them
        VoteWalls z = Check.yardOf("v09;03;05;07,p03,t00,b05,b03,p05,b01");
        z.law(1);
        z.strike(1, 5, 11);
        z.strike(5, 3, 15);
        check.due("one has to strike", z.game(0), 2);
        check.due("the BOARD then", z.game(1), 2);
        z.lock(2, 0, 49);
        check.due("with nobody more on strike", z.wide(0, 49), 4);
    }

    // ---- KNOCKS

    private static void knocksUnknown() {
        check.under("Promise 19", "UNKNOWN");
        VoteWalls x = Check.yardOf(EIGHT);
        check.due("knocks(0, 0, 7)", x.knocks(0, 0, 7), 0);
        check.due("knocks(7, 0, 0)", x.knocks(7, 0, 0), 0);
        check.due("knocks(8, 0, 0)", x.knocks(8, 0, 0), VoteWalls.UNKNOWN);
        check.due("knocks(0, 0, 8)", x.knocks(0, 0, 8), VoteWalls.UNKNOWN);
        check.due("none twice", x.knocks(8, 0, 8), VoteWalls.UNKNOWN);
        for (int p : NO_NUMBERS) {
            check.due("knocks(" + p + ", 0, 0)", x.knocks(p, 0, 0), VoteWalls.UNKNOWN);
            check.due("knocks(0, 0, " + p + ")", x.knocks(0, 0, p), VoteWalls.UNKNOWN);
            check.due("UNKNOWN ahead of OUTSIDE", x.knocks(p, 50, 0), VoteWalls.UNKNOWN);
            check.due("UNKNOWN of the other one ahead of OUTSIDE", x.knocks(0, 50, p), VoteWalls.UNKNOWN);
        }
    }

    private static void knocksOutside() {
        check.under("Promise 19", "OUTSIDE");
        VoteWalls x = Check.yardOf(STILL);
        for (int s : NO_SUNDAYS) {
            check.due("since " + s, x.knocks(0, s, 1), VoteWalls.OUTSIDE);
            check.due("himself, since " + s, x.knocks(0, s, 0), VoteWalls.OUTSIDE);
        }
        check.due("since 0", x.knocks(0, 0, 1), 0);
        check.due("since 49", x.knocks(0, 49, 1), 49);
    }

    private static void knocksHimself() {
        check.under("Promise 19", "(himself: that one)");
        VoteWalls x = Check.yardOf(STILL);
        check.due("since 0", x.knocks(2, 0, 2), 0);
        check.due("since 49", x.knocks(3, 49, 3), 49);
    }

    private static void knocksInOneCellOrBeside() {
        check.under("section 3", "KNOCKS: all who are then in one CELL, or in a CELL beside his, know it");
        VoteWalls x = Check.yardOf("v12;03;06;09,p00,p00,p06,p09");
        x.lock(0, 0, 49);
        x.lock(1, 0, 49);
        check.due("in one cell", x.knocks(0, 5, 1), 5);
        check.due("beside, on the left", x.knocks(3, 5, 2), 5);
        check.due("beside, on the right", x.knocks(2, 5, 3), 5);
        check.due("an empty cell between", x.knocks(1, 5, 2), VoteWalls.NONE);
        // board 0 goes by p01 on Sunday 0: he is in cell 1 as it ends, beside cell 2
        VoteWalls y = Check.yardOf("v12;02;06,p01,b04,b06");
        y.lock(1, 0, 49);
        check.due("as that SUNDAY ends", y.knocks(0, 0, 2), 0);
        y.lock(0, 0, 0);
        check.due("by the one between", y.knocks(0, 0, 2), 1);
    }

    private static void knocksTillThen() {
        check.under("section 3", "KNOCKS: with somebody who knew it till then (that one, too)");
        VoteWalls x = Check.yardOf(STILL);
        check.due("a cell on", x.knocks(0, 7, 1), 7);
        check.due("two cells on", x.knocks(0, 7, 2), 8);
        check.due("three cells on", x.knocks(0, 7, 3), 9);
        check.due("and back", x.knocks(3, 7, 0), 9);
    }

    private static void knocksNever() {
        check.under("Promise 19", "NONE: never");
        VoteWalls x = Check.yardOf(STILL);
        check.due("two cells on, since 48", x.knocks(0, 48, 2), 49);
        check.due("two cells on, since 49", x.knocks(0, 49, 2), VoteWalls.NONE);
        check.due("three cells on, since 47", x.knocks(0, 47, 3), 49);
        check.due("three cells on, since 48", x.knocks(0, 48, 3), VoteWalls.NONE);
    }

    // ---- WALK

    private static void walkOfNone() {
        check.under("Promise 20", "A WALK of n cells of a SHEET");
        VoteWalls x = Check.yardOf(STILL);
        Check.row(x, 0, 9, 9);
        check.due("of none", x.walk(0, 2, 0, 0), 0);
        check.due("of none, from the end on", x.walk(0, 2, 2, 0), 0);
        x.sheet(1, 0, 0);
        check.due("of a row of none", x.walk(1, 0, 0, 0), 0);
    }

    private static void walkFromCell0() {
        check.under("Promise 20", "the first one is CELL 0");
        VoteWalls x = Check.yardOf(STILL);
        Check.row(x, 0, 0, 1, 2, 3);
        check.due("CELL 0", x.walk(0, 2, 0, 1), 1);
        check.due("CELL 1", x.walk(0, 2, 1, 3), 0);
        check.due("CELL 3", x.walk(0, 2, 3, 1), 0);
        check.due("all of them", x.walk(0, 2, 0, 4), 4);
    }

    private static void walkBeside() {
        check.under("Promise 20", "another one the CELL of the one ahead, or one beside it");
        VoteWalls x = Check.yardOf(STILL);
        Check.row(x, 0, 0, 0, 1, 1, 0, 1, 2, 3, 2, 0, 0);
        check.due("till two to the left", x.walk(0, 2, 0, 11), 9);
        Check.row(x, 0, 0, 2, 1, 0);
        check.due("till two to the right", x.walk(0, 2, 0, 4), 1);
        Check.row(x, 0, 0, 3);
        check.due("till three to the right", x.walk(0, 2, 0, 2), 1);
    }

    private static void walkTwoWide() {
        check.under("Promise 20", "it is 2 WIDE at least as that SUNDAY ends");
        VoteWalls one = Check.yardOf("v10;01,p00,p01");
        VoteWalls two = Check.yardOf("v10;02,p00,p02");
        Check.row(one, 0, 0);
        Check.row(two, 0, 0);
        check.due("1 WIDE", one.walk(0, 2, 0, 1), 0);
        check.due("2 WIDE", two.walk(0, 2, 0, 1), 1);
        // CELL 0 becomes 2 wide on Sunday 0: so it ends that wide
        VoteWalls grows = Check.yardOf("v10;01,p00");
        Check.row(grows, 0, 0, 0);
        check.due("2 WIDE as Sunday 0 ends", grows.walk(0, 2, 0, 2), 2);
        VoteWalls falls = Check.yardOf("v10;03,p09");
        Check.row(falls, 0, 0, 0, 0);
        check.due("1 WIDE as Sunday 1 ends", falls.walk(0, 2, 0, 3), 1);
        falls.lock(0, 0, 47);
        falls.sheet(0, 2, 50);
        check.due("1 WIDE as Sunday 49 ends", falls.walk(0, 2, 0, 50), 49);
        falls.lock(0, 49, 49);
        check.due("2 WIDE as Sunday 49 ends", falls.walk(0, 2, 0, 50), 50);
    }

    private static void walkAboveFifty() {
        check.under("Promise 20", "OUTSIDE: n above 50");
        VoteWalls x = Check.yardOf(STILL);
        x.sheet(0, 1, 60);
        check.due("50 cells", x.walk(0, 1, 0, 50), 50);
        check.due("50 cells from 10 on", x.walk(0, 1, 10, 50), 50);
        check.due("51 cells", x.walk(0, 1, 0, 51), VoteWalls.OUTSIDE);
        check.due("60 cells", x.walk(0, 1, 0, 60), VoteWalls.OUTSIDE);
        check.due("61 cells", x.walk(0, 1, 0, 61), -13);
    }

    private static void walkOfNoCell() {
        check.under("Promise 20", "UNKNOWN: a CELL");
        VoteWalls x = Check.yardOf(STILL);
        int[] none = {-1, 4, Integer.MIN_VALUE, Integer.MAX_VALUE};
        for (int c : none) {
            Check.row(x, 0, 0, 0, c);
            check.due("cell " + c, x.walk(0, 2, 0, 3), VoteWalls.UNKNOWN);
            check.due("fault()", x.fault(), 0);
            check.due("ahead of it", x.walk(0, 2, 0, 2), 2);
            check.due("it alone", x.walk(0, 2, 2, 1), VoteWalls.UNKNOWN);
            Check.row(x, 0, 0, 2, c);
            check.due("behind the end of the walk: cell " + c, x.walk(0, 2, 0, 3), VoteWalls.UNKNOWN);
        }
        Check.row(x, 0, 0, 1, 2, 3);
        check.due("the last one is a CELL", x.walk(0, 2, 0, 4), 4);
        x.sheet(1, 0, 1);
        x.put(1, 0, 256);
        check.due("256 is cut to CELL 0", x.walk(1, 0, 0, 1), 1);
    }

    private static void walkRefusalsInOrder() {
        check.under("Promise 20", "UNKNOWN: SHEET; OUTSIDE: lane; FAULTS; STATE: there is no YARD; OUTSIDE; UNKNOWN");
        VoteWalls x = new VoteWalls();
        x.sheet(0, 0, 60);
        x.put(0, 0, 99);
        check.due("a SHEET ahead of a lane", x.walk(4, 3, -1, -1), VoteWalls.UNKNOWN);
        check.due("no SHEET", x.walk(-1, 0, 0, 0), VoteWalls.UNKNOWN);
        check.due("a lane ahead of FAULTS", x.walk(0, 3, -1, -1), VoteWalls.OUTSIDE);
        check.due("no lane", x.walk(1, -1, 0, 0), VoteWalls.OUTSIDE);
        check.due("FAULTS ahead of STATE", x.walk(0, 0, 0, 61), -13);
        check.due("STATE ahead of OUTSIDE", x.walk(0, 0, 0, 51), VoteWalls.STATE);
        check.due("fault()", x.fault(), 0);
        check.due("STATE ahead of UNKNOWN", x.walk(0, 0, 0, 1), VoteWalls.STATE);
        check.due("STATE of no cells", x.walk(0, 0, 0, 0), VoteWalls.STATE);
        Check.give(x, STILL);
        check.due("OUTSIDE ahead of UNKNOWN", x.walk(0, 0, 0, 51), VoteWalls.OUTSIDE);
        check.due("UNKNOWN", x.walk(0, 0, 0, 50), VoteWalls.UNKNOWN);
    }

    private static void walkFaults() {
        check.under("Promise 20", "FAULTS CAST, NULL, SIZE, INDEX");
        VoteWalls x = Check.yardOf(STILL);
        x.sheet(0, 1, 3);
        int[][] calls = {{0, 0, -1, -1, 2}, {0, 2, 9, 1, 2}, {1, 0, -1, -1, 1}, {1, 2, 0, 0, 1}, {0, 1, 9, -1, 4},
            {0, 1, 0, Integer.MIN_VALUE, 4}, {0, 1, -1, 0, 3}, {0, 1, 4, 0, 3}, {0, 1, 3, 1, 3}, {0, 1, 0, 4, 3},
            {0, 1, Integer.MAX_VALUE, Integer.MAX_VALUE, 3}, {0, 1, Integer.MIN_VALUE, 1, 3}};
        for (int[] c : calls) {
            String call = "walk(" + c[0] + ", " + c[1] + ", " + c[2] + ", " + c[3] + ")";
            check.due(call, x.walk(c[0], c[1], c[2], c[3]), -10 - c[4]);
            check.due("fault() of " + call, x.fault(), c[4]);
        }
        check.due("none of them", x.walk(0, 1, 0, 3), 3);
        check.due("fault()", x.fault(), 0);
    }
}
