/** Boundary cases of promises 9 to 14 and of section 2 ahead of them. */
public final class SundayEdgesTest {
    private static final Check check = new Check("SundayEdgesTest");
    private static final int[] NO_NUMBERS = {-1, Integer.MIN_VALUE, Integer.MAX_VALUE};
    private static final int[] NO_SUNDAYS = {-2, 50, Integer.MIN_VALUE, Integer.MAX_VALUE};
    private static final String FULL_YARD = "v30;01;02;03;04;29,p00,t01,b02,p03,t04,b29,p29,p29";

    public static void main(String[] args) {
        whereOneStands();
        moreVotes();
        notAtNone();
        notAtInches();
        notAtAnotherBoard();
        boardByBoard();
        whoIsOnStrike();
        sidesOfABoard();
        gapOfNoBoard();
        gapAtFirstAndAtLast();
        gapOutside();
        cellOfNoPrisoner();
        cellOfOutside();
        cellAtFirstAndAtLast();
        wideOfNoCell();
        wideOutside();
        wideAtLeast();
        withNoPrisoner();
        withOutside();
        withHimself();
        meetUnknown();
        meetFirstAndLast();
        meetNever();
        restsWithoutYard();
        restsFirstAndLast();
        restsNone();
        check.end();
    }

    private static void whereOneStands() {
        check.under("section 1", "one is in the CELL in which his PLACE lies");
        VoteWalls x = Check.yardOf("v10;04;05,p00,p03,p04,p05,p09");
        int[] due = {0, 0, 1, 2, 2};
        for (int p = 0; p < due.length; p++) {
            check.due("cellOf(" + p + ", -1)", x.cellOf(p, -1), due[p]);
        }
    }

    private static void moreVotes() {
        check.under("section 2", "If the left ones have more, its GAP is 1 more; if the right ones have more, 1 less");
        check.due("one more on the left", Check.yardOf("v10;05,t04,p05").gap(0, 0), 6);
        check.due("as many", Check.yardOf("v10;05,p04,p05").gap(0, 0), 5);
        check.due("one more on the right", Check.yardOf("v10;05,p04,t05").gap(0, 0), 4);
        check.due("many more: 1 all the same", Check.yardOf("v30;15,b00,b00,b00").gap(0, 0), 16);
        check.due("none on the left", Check.yardOf("v10;05,p05").gap(0, 0), 4);
        check.due("none on the right", Check.yardOf("v10;05,p04").gap(0, 0), 6);
    }

    private static void notAtNone() {
        check.under("section 2", "but not if it would then be at 0");
        VoteWalls x = Check.yardOf("v10;02,p09");
        check.due("gap(0, 0)", x.gap(0, 0), 1);
        check.due("gap(0, 1)", x.gap(0, 1), 1);
        check.due("gap(0, 49)", x.gap(0, 49), 1);
        check.due("at 1 from the first on", Check.yardOf("v04;01,p03").gap(0, 0), 1);
    }

    private static void notAtInches() {
        check.under("section 2", "or at INCHES");
        VoteWalls x = Check.yardOf("v10;08,p00");
        check.due("gap(0, 0)", x.gap(0, 0), 9);
        check.due("gap(0, 1)", x.gap(0, 1), 9);
        check.due("gap(0, 49)", x.gap(0, 49), 9);
        check.due("at 29 of 30", Check.yardOf("v30;29,p00").gap(0, 0), 29);
        check.due("at 3 of 4", Check.yardOf("v04;03,p00").gap(0, 0), 3);
    }

    private static void notAtAnotherBoard() {
        check.under("section 2", "but not if it would then be at another BOARD's GAP");
        VoteWalls right = Check.yardOf("v10;03;05,t00");
        check.due("gap(0, 0)", right.gap(0, 0), 4);
        check.due("gap(0, 1)", right.gap(0, 1), 4);
        check.due("gap(1, 49)", right.gap(1, 49), 5);
        VoteWalls left = Check.yardOf("v10;03;05,t09");
        check.due("gap(1, 0)", left.gap(1, 0), 4);
        check.due("gap(1, 1)", left.gap(1, 1), 4);
        check.due("gap(0, 49)", left.gap(0, 49), 3);
    }

    private static void boardByBoard() {
        check.under("section 2", "BOARD by BOARD (LAW 0: from the left; LAW 1: from the right), as all stand then");
        VoteWalls x = Check.yardOf("v10;04;05,p00,t09");
        check.due("law 0: gap(0, 0)", x.gap(0, 0), 4);
        check.due("law 0: gap(1, 0)", x.gap(1, 0), 5);
        // the left one has gone to 3, and then there is room for the right one
        VoteWalls y = Check.yardOf("v10;04;05,p04,b05");
        check.due("law 0: gap(0, 0)", y.gap(0, 0), 3);
        check.due("law 0: gap(1, 0)", y.gap(1, 0), 4);
        y.law(1);
        check.due("law 1: gap(0, 0)", y.gap(0, 0), 3);
        check.due("law 1: gap(1, 0)", y.gap(1, 0), 5);
        // who was in the cell between is in another one, as the next board is pushed
        VoteWalls z = Check.yardOf("v10;04;06,b00,p04,t07");
        check.due("law 0: gap(0, 0)", z.gap(0, 0), 5);
        check.due("law 0: gap(1, 0)", z.gap(1, 0), 6);
        z.law(1);
        check.due("law 1: gap(0, 0)", z.gap(0, 0), 4);
        check.due("law 1: gap(1, 0)", z.gap(1, 0), 5);
    }

    private static void whoIsOnStrike() {
        check.under("section 2", "but who is on STRIKE");
        VoteWalls x = Check.yardOf("v10;05,p04,t05");
        x.strike(1, 0, 49);
        check.due("the left one alone", x.gap(0, 0), 6);
        x.strike(0, 0, 49);
        check.due("nobody", x.gap(0, 49), 5);
        check.due("rests()", x.rests(), 0);
    }

    private static void sidesOfABoard() {
        check.under("section 2", "those in the CELL left of it against those in the CELL right of it");
        VoteWalls x = Check.yardOf("v12;03;06;09,b00,p03,t06,b11");
        // board 1 is between p03 and t06; the bullies are in cells that are not beside it
        x.lock(0, 0, 49);
        x.lock(2, 0, 49);
        check.due("gap(1, 0)", x.gap(1, 0), 5);
    }

    private static void gapOfNoBoard() {
        check.under("Promise 9", "UNKNOWN");
        VoteWalls x = Check.yardOf(FULL_YARD);
        check.due("the first one", x.gap(0, -1), 1);
        check.due("the fifth one", x.gap(4, -1), 29);
        check.due("a sixth one", x.gap(5, -1), VoteWalls.UNKNOWN);
        check.due("behind the last one", Check.yardOf("v10;05,p02").gap(1, 0), VoteWalls.UNKNOWN);
        for (int b : NO_NUMBERS) {
            check.due("gap(" + b + ", 0)", x.gap(b, 0), VoteWalls.UNKNOWN);
            check.due("UNKNOWN ahead of OUTSIDE", x.gap(b, 50), VoteWalls.UNKNOWN);
        }
    }

    private static void gapAtFirstAndAtLast() {
        check.under("Promise 9", "as a SUNDAY ends (-1: at first)");
        VoteWalls x = Check.yardOf("v10;05,p02");
        check.due("gap(0, -1)", x.gap(0, -1), 5);
        check.due("gap(0, 0)", x.gap(0, 0), 6);
        x.lock(0, 0, 47);
        check.due("gap(0, 47)", x.gap(0, 47), 5);
        check.due("gap(0, 48)", x.gap(0, 48), 6);
        check.due("gap(0, 49)", x.gap(0, 49), 7);
    }

    private static void gapOutside() {
        check.under("Promise 9", "OUTSIDE");
        VoteWalls x = Check.yardOf("v10;05,p02");
        for (int s : NO_SUNDAYS) {
            check.due("gap(0, " + s + ")", x.gap(0, s), VoteWalls.OUTSIDE);
        }
    }

    private static void cellOfNoPrisoner() {
        check.under("Promise 10", "UNKNOWN");
        VoteWalls x = Check.yardOf(FULL_YARD);
        check.due("the first one", x.cellOf(0, -1), 0);
        check.due("the eighth one", x.cellOf(7, -1), 5);
        check.due("a ninth one", x.cellOf(8, -1), VoteWalls.UNKNOWN);
        check.due("behind the last one", Check.yardOf("v10;05,p02").cellOf(1, 0), VoteWalls.UNKNOWN);
        for (int p : NO_NUMBERS) {
            check.due("cellOf(" + p + ", 0)", x.cellOf(p, 0), VoteWalls.UNKNOWN);
            check.due("UNKNOWN ahead of OUTSIDE", x.cellOf(p, 50), VoteWalls.UNKNOWN);
        }
    }

    private static void cellOfOutside() {
        check.under("Promise 10", "OUTSIDE");
        VoteWalls x = Check.yardOf("v10;05,p02");
        for (int s : NO_SUNDAYS) {
            check.due("cellOf(0, " + s + ")", x.cellOf(0, s), VoteWalls.OUTSIDE);
        }
    }

    private static void cellAtFirstAndAtLast() {
        check.under("Promise 10", "as a SUNDAY ends (-1: at first)");
        VoteWalls x = Check.yardOf("v10;05,p05,t01");
        check.due("at first right of the board", x.cellOf(0, -1), 1);
        check.due("left of it as Sunday 0 ends", x.cellOf(0, 0), 0);
        x.lock(0, 0, 48);
        check.due("cellOf(0, 48)", x.cellOf(0, 48), 1);
        check.due("cellOf(0, 49)", x.cellOf(0, 49), 0);
    }

    private static void wideOfNoCell() {
        check.under("Promise 11", "UNKNOWN");
        VoteWalls x = Check.yardOf(FULL_YARD);
        check.due("the first one", x.wide(0, -1), 1);
        check.due("the sixth one", x.wide(5, -1), 1);
        check.due("a seventh one", x.wide(6, -1), VoteWalls.UNKNOWN);
        check.due("the last one of two", Check.yardOf("v10;05,p02").wide(1, -1), 5);
        check.due("behind the last one", Check.yardOf("v10;05,p02").wide(2, 0), VoteWalls.UNKNOWN);
        check.due("without a yard", new VoteWalls().wide(0, 0), VoteWalls.UNKNOWN);
        for (int c : NO_NUMBERS) {
            check.due("wide(" + c + ", 0)", x.wide(c, 0), VoteWalls.UNKNOWN);
            check.due("UNKNOWN ahead of OUTSIDE", x.wide(c, 50), VoteWalls.UNKNOWN);
        }
    }

    private static void wideOutside() {
        check.under("Promise 11", "OUTSIDE");
        VoteWalls x = Check.yardOf("v10;05,p02");
        for (int s : NO_SUNDAYS) {
            check.due("wide(0, " + s + ")", x.wide(0, s), VoteWalls.OUTSIDE);
        }
    }

    private static void wideAtLeast() {
        check.under("Promise 11", "WIDE of a CELL as a SUNDAY ends (-1: at first)");
        VoteWalls x = Check.yardOf("v10;04;06,p09");
        int[][] due = {{4, 2, 4}, {4, 1, 5}, {4, 1, 5}};
        for (int s = -1; s < 2; s++) {
            for (int c = 0; c < 3; c++) {
                check.due("wide(" + c + ", " + s + ")", x.wide(c, s), due[s + 1][c]);
            }
        }
        x.lock(1, 0, 48);
        check.due("wide(1, 48)", x.wide(1, 48), 2);
        check.due("wide(1, 49)", x.wide(1, 49), 1);
        check.due("of 30 inches", Check.yardOf("v30;01,p00").wide(1, -1), 29);
    }

    private static void withNoPrisoner() {
        check.under("Promise 12", "UNKNOWN");
        VoteWalls x = Check.yardOf(FULL_YARD);
        check.due("the eighth one", x.with(7, -1), 224);
        check.due("a ninth one", x.with(8, -1), VoteWalls.UNKNOWN);
        check.due("behind the last one", Check.yardOf("v10;05,p02").with(1, 0), VoteWalls.UNKNOWN);
        for (int p : NO_NUMBERS) {
            check.due("with(" + p + ", 0)", x.with(p, 0), VoteWalls.UNKNOWN);
            check.due("UNKNOWN ahead of OUTSIDE", x.with(p, 50), VoteWalls.UNKNOWN);
        }
    }

    private static void withOutside() {
        check.under("Promise 12", "OUTSIDE");
        VoteWalls x = Check.yardOf("v10;05,p02");
        for (int s : NO_SUNDAYS) {
            check.due("with(0, " + s + ")", x.with(0, s), VoteWalls.OUTSIDE);
        }
    }

    private static void withHimself() {
        check.under("Promise 12", "as a set (himself, too)");
        check.due("he alone", Check.yardOf("v10;05,p02").with(0, -1), 1);
        check.due("each alone", Check.yardOf("v10;05,p02,p07").with(1, -1), 2);
        VoteWalls all = Check.yardOf("v10;09,p00,p01,p02,p03,p04,p05,p06,p07");
        check.due("all eight", all.with(3, -1), 255);
        VoteWalls x = Check.yardOf("v10;05,p05,t01");
        check.due("with(0, -1)", x.with(0, -1), 1);
        check.due("with(0, 0)", x.with(0, 0), 3);
        x.lock(0, 0, 48);
        check.due("with(1, 48)", x.with(1, 48), 2);
        check.due("with(1, 49)", x.with(1, 49), 3);
    }

    private static void meetUnknown() {
        check.under("Promise 13", "UNKNOWN");
        VoteWalls x = Check.yardOf(FULL_YARD);
        check.due("two of them", x.meet(6, 7), 0);
        check.due("meet(8, 0)", x.meet(8, 0), VoteWalls.UNKNOWN);
        check.due("meet(0, 8)", x.meet(0, 8), VoteWalls.UNKNOWN);
        check.due("none twice", x.meet(8, 8), VoteWalls.UNKNOWN);
        for (int p : NO_NUMBERS) {
            check.due("meet(" + p + ", 0)", x.meet(p, 0), VoteWalls.UNKNOWN);
            check.due("meet(0, " + p + ")", x.meet(0, p), VoteWalls.UNKNOWN);
        }
    }

    private static void meetFirstAndLast() {
        check.under("Promise 13", "The first SUNDAY as which ends two are in one CELL");
        VoteWalls x = Check.yardOf("v10;05,p05,t01");
        check.due("on Sunday 0", x.meet(0, 1), 0);
        check.due("one with himself", x.meet(0, 0), 0);
        x.lock(0, 0, 0);
        check.due("on Sunday 1", x.meet(0, 1), 1);
        x.lock(0, 1, 48);
        check.due("on Sunday 49", x.meet(0, 1), 49);
    }

    private static void meetNever() {
        check.under("Promise 13", "NONE: never");
        VoteWalls x = Check.yardOf("v10;05,p05,t01");
        x.lock(0, 0, 49);
        check.due("not in 50 Sundays", x.meet(0, 1), VoteWalls.NONE);
        // together at first, but no more as Sunday 0 ends, and never again
        VoteWalls y = Check.yardOf("v10;05,p04,b05,p00");
        check.due("with(0, -1)", y.with(0, -1), 5);
        check.due("meet(0, 2)", y.meet(0, 2), VoteWalls.NONE);
    }

    private static void restsWithoutYard() {
        check.under("Promise 14", "STATE: there is no YARD");
        VoteWalls x = new VoteWalls();
        check.due("rests()", x.rests(), VoteWalls.STATE);
        Check.give(x, "v10;05");
        check.due("behind what is no text", x.rests(), VoteWalls.STATE);
    }

    private static void restsFirstAndLast() {
        check.under("section 2", "RESTS: the first SUNDAY from which on, to SUNDAY 49, no BOARD moves");
        check.due("nothing moves at all", Check.yardOf("v10;05,p04,p05").rests(), 0);
        check.due("one moves on 0 alone", Check.yardOf("v10;08,p00").rests(), 1);
        VoteWalls x = Check.yardOf("v10;05,p02");
        x.lock(0, 0, 44);
        check.due("one moves on 48", x.rests(), 49);
        // board 0 rests at once, but board 1 moves
        check.due("another board moves", Check.yardOf("v10;04;06,p09").rests(), 1);
        VoteWalls back = Check.yardOf("v10;05,p02,t08");
        back.strike(1, 1, 1);
        check.due("to and fro", back.rests(), 6);
    }

    private static void restsNone() {
        check.under("Promise 14", "NONE: one moves on SUNDAY 49");
        VoteWalls x = Check.yardOf("v10;05,p02");
        x.lock(0, 0, 45);
        check.due("moves on 46 .. 49", x.rests(), VoteWalls.NONE);
        x.unlock(1);
        x.lock(0, 0, 48);
        check.due("moves on 49 alone", x.rests(), VoteWalls.NONE);
        x.lock(0, 49, 49);
        check.due("locked then, too", x.rests(), 0);
    }
}
