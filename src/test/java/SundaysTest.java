/** Promises 9 to 14. */
public final class SundaysTest {
    private static final Check check = new Check("SundaysTest");

    public static void main(String[] args) {
        gaps();
        locksAndStrikesTogether();
        strikeAfterStillness();
        boardsInTheWay();
        cells();
        widths();
        withWhom();
        meetings();
        rest();
        check.end();
    }

    private static void gaps() {
        VoteWalls right = Check.yardOf("v10;05,p02");
        int[] up = {5, 6, 7, 8, 9, 9, 9};
        for (int k = 0; k < up.length; k++) {
            check.due("pushed right: gap(0, " + (k - 1) + ")", right.gap(0, k - 1), up[k]);
        }
        VoteWalls left = Check.yardOf("v10;05,p07");
        int[] down = {5, 4, 3, 2, 1, 1, 1};
        for (int k = 0; k < down.length; k++) {
            check.due("pushed left: gap(0, " + (k - 1) + ")", left.gap(0, k - 1), down[k]);
        }
        check.due("gap(0, 49)", left.gap(0, 49), 1);
        check.due("gap(0, 50)", left.gap(0, 50), VoteWalls.OUTSIDE);
        check.due("gap(0, -2)", left.gap(0, -2), VoteWalls.OUTSIDE);
        check.due("gap(1, 50)", left.gap(1, 50), VoteWalls.UNKNOWN);
        check.due("gap(-1, 0)", left.gap(-1, 0), VoteWalls.UNKNOWN);
        VoteWalls alike = Check.yardOf("v10;05,p04,t02,p05,t09");
        check.due("as many on both sides", alike.gap(0, 49), 5);
        VoteWalls bully = Check.yardOf("v10;05,p04,t02,b05");
        check.due("4 against 3", bully.gap(0, 0), 4);
        VoteWalls edge = Check.yardOf("v30;28,b29,t00");
        check.due("who stands at the last inch votes", edge.gap(0, 0), 27);
        VoteWalls wall = Check.yardOf("v30;29,t29,p00");
        check.due("behind the last gap, too", wall.gap(0, 0), 28);
    }

    private static void locksAndStrikesTogether() {
        VoteWalls x = Check.yardOf("v30;10;20,t00,b29,p15");
        x.lock(0, 0, 3);
        x.lock(1, 2, 5);
        x.strike(0, 5, 6);
        x.strike(1, 6, 7);
        int[] first = {10, 10, 10, 10, 11, 10, 9, 10, 11};
        int[] second = {19, 18, 18, 18, 18, 18, 19, 20, 19};
        for (int s = 0; s < first.length; s++) {
            check.due("both: gap(0, " + s + ")", x.gap(0, s), first[s]);
            check.due("both: gap(1, " + s + ")", x.gap(1, s), second[s]);
        }
    }

    private static void strikeAfterStillness() {
        VoteWalls x = Check.yardOf("v10;05,p02,p07");
        x.strike(1, 10, 12);
        check.due("still: gap(0, 9)", x.gap(0, 9), 5);
        check.due("on strike: gap(0, 10)", x.gap(0, 10), 6);
        check.due("on strike: gap(0, 12)", x.gap(0, 12), 8);
        check.due("the other one is among the left ones", x.cellOf(1, 12), 0);
        check.due("both push: gap(0, 13)", x.gap(0, 13), 9);
        check.due("rests()", x.rests(), 14);
    }

    private static void boardsInTheWay() {
        VoteWalls x = Check.yardOf("v10;04;05,t00");
        check.due("no push on an empty side", x.gap(1, 49), 5);
        check.due("not to another board's gap", x.gap(0, 49), 4);
        VoteWalls y = Check.yardOf("v10;04;05,t09");
        check.due("not to the gap of the one ahead", y.gap(1, 49), 5);
    }

    private static void cells() {
        VoteWalls x = Check.yardOf("v10;05,p04,p05,p09");
        check.due("cellOf(0, -1)", x.cellOf(0, -1), 0);
        check.due("cellOf(1, -1)", x.cellOf(1, -1), 1);
        check.due("cellOf(0, 0)", x.cellOf(0, 0), 1);
        check.due("cellOf(2, 49)", x.cellOf(2, 49), 1);
        check.due("cellOf(3, 0)", x.cellOf(3, 0), VoteWalls.UNKNOWN);
        check.due("cellOf(-1, 99)", x.cellOf(-1, 99), VoteWalls.UNKNOWN);
        check.due("cellOf(0, 50)", x.cellOf(0, 50), VoteWalls.OUTSIDE);
        check.due("cellOf(0, -2)", x.cellOf(0, -2), VoteWalls.OUTSIDE);
        VoteWalls y = Check.yardOf("v12;02;05;09,p00,p02,p08,p11");
        for (int p = 0; p < 4; p++) {
            check.due("one in each: cellOf(" + p + ", -1)", y.cellOf(p, -1), p);
        }
    }

    private static void widths() {
        VoteWalls x = Check.yardOf("v12;02;05;09,p00");
        int[] first = {2, 3, 4, 3};
        int[] third = {4, 1, 4, 3};
        for (int c = 0; c < 4; c++) {
            check.due("wide(" + c + ", -1)", x.wide(c, -1), first[c]);
            check.due("wide(" + c + ", 2)", x.wide(c, 2), third[c]);
        }
        check.due("wide(4, 0)", x.wide(4, 0), VoteWalls.UNKNOWN);
        check.due("wide(-1, 99)", x.wide(-1, 99), VoteWalls.UNKNOWN);
        check.due("wide(0, 50)", x.wide(0, 50), VoteWalls.OUTSIDE);
        check.due("wide(0, -2)", x.wide(0, -2), VoteWalls.OUTSIDE);
    }

    private static void withWhom() {
        VoteWalls x = Check.yardOf("v10;05,p04,p05,p09");
        check.due("with(0, -1)", x.with(0, -1), 1);
        check.due("with(1, -1)", x.with(1, -1), 6);
        check.due("with(0, 0)", x.with(0, 0), 7);
        check.due("with(3, 0)", x.with(3, 0), VoteWalls.UNKNOWN);
        check.due("with(0, 50)", x.with(0, 50), VoteWalls.OUTSIDE);
        check.due("with(0, -2)", x.with(0, -2), VoteWalls.OUTSIDE);
    }

    private static void meetings() {
        VoteWalls x = Check.yardOf("v10;05,p02,b09,p01");
        check.due("meet(0, 1)", x.meet(0, 1), 2);
        check.due("meet(1, 0)", x.meet(1, 0), 2);
        check.due("meet(1, 2)", x.meet(1, 2), 3);
        check.due("together at first", x.meet(0, 2), 0);
        check.due("one with himself", x.meet(1, 1), 0);
        check.due("meet(0, 3)", x.meet(0, 3), VoteWalls.UNKNOWN);
        check.due("meet(-1, 0)", x.meet(-1, 0), VoteWalls.UNKNOWN);
        VoteWalls never = Check.yardOf("v10;05,p00,p09");
        check.due("never", never.meet(0, 1), VoteWalls.NONE);
        VoteWalls last = Check.yardOf("v10;02,p01,b09");
        last.lock(0, 0, 48);
        check.due("on the last one", last.meet(0, 1), 49);
    }

    private static void rest() {
        check.due("rests right", Check.yardOf("v10;05,p02").rests(), 4);
        check.due("rests at once", Check.yardOf("v10;05,p02,p05").rests(), 0);
        VoteWalls x = Check.yardOf("v10;05,p02");
        x.lock(0, 0, 48);
        check.due("one moves on Sunday 49", x.rests(), VoteWalls.NONE);
        x.lock(0, 49, 49);
        check.due("none moves", x.rests(), 0);
        x.unlock(2);
        x.lock(0, 2, 30);
        check.due("a pause is no rest", x.rests(), 33);
        check.due("gap in the pause", x.gap(0, 30), 7);
        check.due("gap behind the pause", x.gap(0, 31), 8);
    }
}
