/** Promises 15 to 20. */
public final class LocksTest {
    private static final Check check = new Check("LocksTest");

    public static void main(String[] args) {
        apart();
        joined();
        pushed();
        game();
        knocks();
        walk();
        walkRefused();
        check.end();
    }

    private static void apart() {
        VoteWalls x = Check.yardOf("v10;05,p02,b09,p01");
        check.due("apart(0, 1)", x.apart(0, 1), 1);
        check.due("together at first, whatever is locked", x.apart(0, 2), VoteWalls.NONE);
        check.due("apart(1, 1)", x.apart(1, 1), VoteWalls.UNKNOWN);
        check.due("apart(0, 3)", x.apart(0, 3), VoteWalls.UNKNOWN);
        check.due("apart(-1, 0)", x.apart(-1, 0), VoteWalls.UNKNOWN);
        VoteWalls never = Check.yardOf("v10;05,p00,p09");
        check.due("no board is needed", never.apart(0, 1), 0);
        VoteWalls two = Check.yardOf("v12;04;07,p03,b11");
        check.due("of several the least", two.apart(0, 1), least(two, 0, 1));
        // the board gets to the left one, as only the bully votes for long
        VoteWalls voting = Check.yardOf("v10;05,b04,t06");
        check.due("all vote", voting.apart(0, 1), 1);
        VoteWalls late = Check.yardOf("v10;02,p01,b09");
        late.lock(0, 0, 48);
        check.due("together on the last Sunday alone", late.apart(0, 1), 1);
        late.lock(0, 49, 49);
        check.due("besides all locks", late.apart(0, 1), 0);
        VoteWalls three = Check.yardOf("v20;05;10;15,p04,b07,b12,p18");
        for (int p = 0; p < 4; p++) {
            for (int other = 0; other < 4; other++) {
                if (p != other) {
                    check.due("three: apart(" + p + ", " + other + ")", three.apart(p, other), least(three, p, other));
                }
            }
        }
    }

    /** By locks of the calls themselves, as the fewest, then the least. */
    private static int least(VoteWalls x, int p, int other) {
        int best = VoteWalls.NONE;
        for (int set = 0; set < 1 << x.many(1); set++) {
            for (int b = 0; b < x.many(1); b++) {
                if ((set >> b & 1) == 1) {
                    x.lock(b, 0, 49);
                }
            }
            boolean fewer = best < 0 || Integer.bitCount(set) < Integer.bitCount(best);
            if (fewer && x.meet(p, other) == VoteWalls.NONE) {
                best = set;
            }
            x.unlock(x.many(3));
        }
        return best;
    }

    private static void joined() {
        VoteWalls x = Check.yardOf("v10;05,p02,b09,p01");
        check.due("joined(0, 1)", x.joined(0, 1), 1);
        check.due("joined(1, 1)", x.joined(1, 1), VoteWalls.UNKNOWN);
        check.due("joined(3, 0)", x.joined(3, 0), VoteWalls.UNKNOWN);
        check.due("joined(0, -1)", x.joined(0, -1), VoteWalls.UNKNOWN);
        x.lock(0, 0, 49);
        check.due("besides all locks", x.joined(0, 1), 0);
        check.due("joined(0, 2)", x.joined(0, 2), 1);
        check.due("by none of the locks", Check.yardOf("v10;05,p00,p09").joined(0, 1), 0);
        VoteWalls late = Check.yardOf("v10;02,p01,b09");
        late.lock(0, 0, 48);
        check.due("on the last Sunday", late.joined(0, 1), 1);
        late.lock(0, 49, 49);
        check.due("behind the last Sunday", late.joined(0, 1), 0);
        // the first board goes to the right one only if the second board is locked
        VoteWalls by = Check.yardOf("v12;03;07,t00,p05,b11");
        check.due("never as it is", by.meet(0, 1), VoteWalls.NONE);
        by.lock(1, 0, 49);
        check.due("with the lock", by.meet(0, 1), 2);
        by.unlock(1);
        check.due("by a board that is locked", by.joined(0, 1), 1);
    }

    private static void pushed() {
        VoteWalls x = Check.yardOf("v10;05,p02,t08,p04");
        check.due("as it is", x.pushed(0, 5, 9), 0);
        check.due("one of two: the least", x.pushed(0, 4, 0), 1);
        check.due("the other way", x.pushed(0, 6, 0), 2);
        check.due("beyond reach", x.pushed(0, 8, 1), VoteWalls.NONE);
        check.due("gap 0", x.pushed(0, 0, 0), VoteWalls.OUTSIDE);
        check.due("gap of inches", x.pushed(0, 10, 0), VoteWalls.OUTSIDE);
        check.due("gap 9", x.pushed(0, 9, 49), 2);
        check.due("gap 1", x.pushed(0, 1, 49), 1);
        check.due("sunday -1", x.pushed(0, 5, -1), VoteWalls.OUTSIDE);
        check.due("sunday 50", x.pushed(0, 5, 50), VoteWalls.OUTSIDE);
        check.due("board 1", x.pushed(1, 0, 50), VoteWalls.UNKNOWN);
        x.strike(1, 0, 49);
        check.due("besides all strikes", x.pushed(0, 6, 0), 0);
        // both tall ones (6) would do, but so does the bully of the right ones alone (8)
        VoteWalls few = Check.yardOf("v10;05,b04,t06,t07,b08");
        check.due("the fewest ahead of the least", few.pushed(0, 5, 0), 8);
        check.due("both of them", x.pushed(0, 5, 0), 5);
    }

    private static void game() {
        // the board is at 5: locked it stays there, whoever is on strike
        VoteWalls one = Check.yardOf("v10;05,p02");
        check.due("game(0) of one board", one.game(0), 5);
        check.due("game(1) of one board", one.game(1), 0);
        // board 1 locked: p00 alone at strike keeps board 0 at 3, else it goes up to 6
        VoteWalls two = Check.yardOf("v10;03;07,t00,p05");
        check.due("game(0) of two boards", two.game(0), 3);
        check.due("game(1) of two boards", two.game(1), 0);
        // board 0 locked stays at 6; board 1 locked lets the bully push board 0 to 1
        VoteWalls right = Check.yardOf("v10;06;08,b07,t07,p00");
        check.due("game(0), board 1", right.game(0), 1);
        check.due("game(1), board 1", right.game(1), 1);
        // nothing moves at all: of several boards the least
        VoteWalls still = Check.yardOf("v12;03;06;09,t00");
        still.lock(0, 0, 49);
        check.due("game(0) of boards alike", still.game(0), 3);
        check.due("game(1) of boards alike", still.game(1), 0);
        // by locks and strikes of the calls themselves: the last Sunday counts, too
        VoteWalls late = Check.yardOf("v20;08;12,p01,t09,b11,p15");
        late.lock(0, 2, 48);
        gameIsSo(late);
        gameIsSo(Check.yardOf("v20;05;09;14,p01,t03,b07,p08,p12,t13,b18"));
        gameIsSo(Check.yardOf("v20;10;12,p09,p11,b13"));
        check.due("game(2)", right.game(2), VoteWalls.OUTSIDE);
        check.due("game(-1)", right.game(-1), VoteWalls.OUTSIDE);
        check.due("game(2) without a yard", new VoteWalls().game(2), VoteWalls.OUTSIDE);
        check.due("game(1) without a yard", new VoteWalls().game(1), VoteWalls.STATE);
    }

    private static void gameIsSo(VoteWalls x) {
        int least = 99;
        int board = 0;
        for (int b = 0; b < x.many(1); b++) {
            x.lock(b, 0, 49);
            int most = 0;
            for (int p = 0; p < x.many(0); p++) {
                x.strike(p, 0, 49);
                most = Math.max(most, x.wide(0, 49));
                x.eat(1);
            }
            x.unlock(1);
            if (most < least) {
                least = most;
                board = b;
            }
        }
        check.due("game(0) by calls", x.game(0), least);
        check.due("game(1) by calls", x.game(1), board);
    }

    private static void knocks() {
        // cells 0, 1, 2, 3 with one each, and nothing moves as all have one vote
        VoteWalls x = Check.yardOf("v12;03;06;09,p00,p03,p06,p09");
        check.due("beside: knocks(0, 0, 1)", x.knocks(0, 0, 1), 0);
        check.due("a cell a Sunday: knocks(0, 0, 2)", x.knocks(0, 0, 2), 1);
        check.due("knocks(0, 0, 3)", x.knocks(0, 0, 3), 2);
        check.due("knocks(3, 7, 0)", x.knocks(3, 7, 0), 9);
        check.due("too late", x.knocks(3, 48, 0), VoteWalls.NONE);
        check.due("just in time", x.knocks(3, 47, 0), 49);
        check.due("himself", x.knocks(2, 13, 2), 13);
        check.due("since -1", x.knocks(0, -1, 0), VoteWalls.OUTSIDE);
        check.due("since 50", x.knocks(0, 50, 0), VoteWalls.OUTSIDE);
        check.due("no such other one", x.knocks(0, 50, 4), VoteWalls.UNKNOWN);
        check.due("no such one", x.knocks(4, 50, 0), VoteWalls.UNKNOWN);
        VoteWalls wall = Check.yardOf("v12;03;09,p00,p11");
        wall.lock(0, 0, 49);
        wall.lock(1, 0, 49);
        check.due("never over an empty cell", wall.knocks(0, 0, 1), VoteWalls.NONE);
        // p01 comes into cell 1 as the last Sunday ends, and is then beside cell 2
        VoteWalls last = Check.yardOf("v12;02;06,p01,b04,b06");
        last.lock(0, 0, 48);
        last.lock(1, 0, 49);
        check.due("boards as they are on the last one", last.knocks(0, 49, 2), 49);
        check.due("by the one between", last.knocks(0, 48, 2), 49);
        last.lock(0, 49, 49);
        check.due("too far on the last one", last.knocks(0, 49, 2), VoteWalls.NONE);
    }

    private static void walk() {
        VoteWalls x = Check.yardOf("v12;03;06;07,p00,p03,p06,p07");
        Check.row(x, 0, 0, 1, 1, 0, 0, 1, 3, 2, 3);
        check.due("none", x.walk(0, 2, 0, 0), 0);
        check.due("one", x.walk(0, 2, 0, 1), 1);
        check.due("till two cells on", x.walk(0, 2, 0, 9), 6);
        check.due("not from cell 0", x.walk(0, 2, 1, 3), 0);
        check.due("from another place", x.walk(0, 2, 3, 1), 1);
        Check.row(x, 0, 0, 1, 2, 2);
        check.due("till one is 1 wide", x.walk(0, 2, 0, 4), 2);
        // cell 0 grows: 2 wide as Sunday 0 ends, cell 1 becomes 1 wide as Sunday 2 ends
        VoteWalls y = Check.yardOf("v10;01;05,p00");
        Check.row(y, 1, 0, 1, 1, 1, 1);
        check.due("first one wide as Sunday 0 ends", y.walk(1, 2, 0, 1), 1);
        check.due("each as its Sunday ends", y.walk(1, 2, 0, 5), 2);
        VoteWalls end = Check.yardOf("v10;03,b09");
        end.lock(0, 0, 47);
        end.sheet(1, 1, 50);
        check.due("2 wide as Sunday 48 ends, 1 wide as 49 ends", end.walk(1, 1, 0, 50), 49);
        VoteWalls z = Check.yardOf("v10;01;05,p02");
        Check.row(z, 1, 0);
        check.due("cell 0 is 1 wide", z.walk(1, 2, 0, 1), 0);
    }

    private static void walkRefused() {
        VoteWalls none = new VoteWalls();
        check.due("walk(4, 9, 0, 0)", none.walk(4, 9, 0, 0), VoteWalls.UNKNOWN);
        check.due("walk(0, 3, 0, 0)", none.walk(0, 3, 0, 0), VoteWalls.OUTSIDE);
        check.due("walk of nothing", none.walk(0, 0, 0, -1), -11);
        none.sheet(0, 0, 5);
        check.due("walk of another lane", none.walk(0, 1, 0, -1), -12);
        check.due("walk of n below 0", none.walk(0, 0, 9, -1), -14);
        check.due("fault() of it", none.fault(), 4);
        check.due("walk of cells beyond", none.walk(0, 0, 3, 3), -13);
        check.due("walk from beyond", none.walk(0, 0, 6, 0), -13);
        check.due("walk without a yard", none.walk(0, 0, 5, 0), VoteWalls.STATE);
        check.due("fault() of it", none.fault(), 0);
        VoteWalls x = Check.yardOf("v12;03,p00,p03");
        x.sheet(0, 0, 60);
        check.due("50 Sundays", x.walk(0, 0, 10, 50), 50);
        x.put(0, 55, 2);
        check.due("51 ahead of a cell", x.walk(0, 0, 9, 51), VoteWalls.OUTSIDE);
        check.due("a later one is no cell", x.walk(0, 0, 10, 50), VoteWalls.UNKNOWN);
        x.put(0, 55, -1);
        check.due("cell -1", x.walk(0, 0, 10, 50), VoteWalls.UNKNOWN);
        check.due("the first one is no cell", x.walk(0, 0, 55, 1), VoteWalls.UNKNOWN);
        check.due("ahead of it", x.walk(0, 0, 10, 45), 45);
    }
}
