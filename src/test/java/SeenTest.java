/** Promises 21 to 26. */
public final class SeenTest {
    private static final Check check = new Check("SeenTest");

    public static void main(String[] args) {
        readings();
        struck();
        laws();
        stood();
        odds();
        check.end();
    }

    private static void readings() {
        VoteWalls x = Check.yardOf("v10;05,p02");
        check.due("reading(1, 60, 60)", x.reading(1, 60, 60), VoteWalls.UNKNOWN);
        check.due("reading(-1, 0, 0)", x.reading(-1, 0, 0), VoteWalls.UNKNOWN);
        check.due("reading(0, -1, 5)", x.reading(0, -1, 5), VoteWalls.OUTSIDE);
        check.due("reading(0, 50, 5)", x.reading(0, 50, 5), VoteWalls.OUTSIDE);
        check.due("reading(0, 0, -1)", x.reading(0, 0, -1), VoteWalls.OUTSIDE);
        check.due("reading(0, 0, 31)", x.reading(0, 0, 31), VoteWalls.OUTSIDE);
        check.due("reading(0, 49, 30)", x.reading(0, 49, 30), 0);
        check.due("reading(0, 0, 0)", x.reading(0, 0, 0), 1);
        check.due("back(3)", x.back(3), VoteWalls.OUTSIDE);
        check.due("back(-1)", x.back(-1), VoteWalls.OUTSIDE);
        check.due("back(0)", x.back(0), 2);
        check.due("back(2)", x.back(2), 0);
        for (int k = 0; k < 8; k++) {
            check.due("reading " + k, x.reading(0, 0, 6), k);
        }
        check.due("reading OUTSIDE ahead of FULL", x.reading(0, 0, 31), VoteWalls.OUTSIDE);
        check.due("reading FULL", x.reading(0, 0, 6), VoteWalls.FULL);
        check.due("many(5)", x.many(5), 8);
        check.due("back(0) without a yard", new VoteWalls().back(0), 0);
        check.due("back(1) without a yard", new VoteWalls().back(1), VoteWalls.OUTSIDE);
    }

    private static void struck() {
        VoteWalls x = Check.yardOf("v10;05,p02,t08,p04");
        check.due("no readings", x.struck(), 7);
        x.reading(0, 0, 4);
        check.due("one of the left ones", x.struck(), 5);
        // who is at 4 is among the right ones as Sunday 0 ends, unless he is the one on strike
        x.reading(0, 49, 1);
        check.due("and to the end", x.struck(), 5);
        x.back(2);
        x.reading(0, 0, 6);
        check.due("the right one", x.struck(), 2);
        x.reading(0, 1, 6);
        check.due("none", x.struck(), 0);
        x.back(1);
        x.strike(1, 0, 0);
        check.due("besides the strikes that are told", x.struck(), 7);
        VoteWalls late = Check.yardOf("v10;05,p02,p03,b09");
        late.lock(0, 0, 48);
        late.reading(0, 49, 6);
        check.due("on the last Sunday", late.struck(), 4);
        check.due("without a yard", new VoteWalls().struck(), VoteWalls.STATE);
    }

    private static void laws() {
        VoteWalls x = Check.yardOf("v10;04;05,b00,t04");
        check.due("no readings", x.laws(), 3);
        x.reading(1, 0, 6);
        check.due("by both", x.laws(), 3);
        x.reading(0, 0, 5);
        check.due("by law 1", x.laws(), 2);
        x.law(1);
        check.due("whatever the law is", x.laws(), 2);
        x.back(1);
        x.reading(0, 0, 4);
        check.due("by law 0", x.laws(), 1);
        check.due("the law stays", x.many(6), 1);
        x.reading(0, 0, 5);
        check.due("by none", x.laws(), 0);
        VoteWalls late = Check.yardOf("v10;04;05,b00,t04");
        late.lock(0, 0, 48);
        late.lock(1, 0, 48);
        late.reading(0, 49, 5);
        check.due("on the last Sunday", late.laws(), 2);
        check.due("without a yard", new VoteWalls().laws(), VoteWalls.STATE);
    }

    private static void stood() {
        VoteWalls x = Check.yardOf("v10;05,p02,p07");
        check.due("no readings", x.stood(0), 1023);
        x.reading(0, 0, 5);
        check.due("left of it", x.stood(0), 31);
        check.due("right of it", x.stood(1), 1023 - 31);
        x.back(1);
        x.reading(0, 0, 4);
        check.due("with the other one", x.stood(0), 1023 - 31);
        check.due("nowhere", x.stood(1), 0);
        check.due("his place stays", x.ofPrisoner(0, 1), 2);
        check.due("gap stays", x.gap(0, 0), 5);
        x.back(1);
        x.lock(0, 0, 48);
        x.reading(0, 49, 4);
        check.due("on the last Sunday", x.stood(0), 1023 - 31);
        check.due("stood(2)", x.stood(2), VoteWalls.UNKNOWN);
        check.due("stood(-1)", x.stood(-1), VoteWalls.UNKNOWN);
        check.due("30 places", Check.yardOf("v30;05,p02").stood(0), (1 << 30) - 1);
    }

    private static void odds(VoteWalls x, String what, int p, int other, int sunday, long[] due) {
        check.due("upper, " + what, x.odds(p, other, sunday, 0), due[0]);
        check.due("lower, " + what, x.odds(p, other, sunday, 1), due[1]);
    }

    private static void odds() {
        // if b05 votes, the board is at 4 as Sunday 0 ends: p04 is then with him, not with p00
        VoteWalls x = Check.yardOf("v10;05,p04,b05,p00");
        odds(x, "half of them", 0, 2, 0, new long[] {1, 2});
        odds(x, "but if none votes", 0, 1, 0, new long[] {7, 8});
        odds(x, "one with himself", 1, 1, 9, new long[] {1, 1});
        odds(Check.yardOf("v10;05,p00,p09"), "never", 0, 1, 49, new long[] {0, 1});
        // b05 does not vote and p00 or p04 does: 5 becomes 6 and b05 is among the left ones
        odds(x, "three of eight", 2, 1, 0, new long[] {3, 8});
        x.strike(1, 0, 49);
        odds(x, "besides all strikes", 2, 1, 0, new long[] {3, 4});
        check.due("odds(0, 3, ..)", x.odds(0, 3, 0, 0), VoteWalls.LOST);
        check.due("odds(-1, 0, ..)", x.odds(-1, 0, 0, 0), VoteWalls.LOST);
        check.due("sunday -1", x.odds(0, 1, -1, 0), VoteWalls.LOST);
        check.due("sunday 50", x.odds(0, 1, 50, 0), VoteWalls.LOST);
        check.due("which 2", x.odds(0, 1, 0, 2), VoteWalls.LOST);
        check.due("which -1", x.odds(0, 1, 0, -1), VoteWalls.LOST);
        check.due("LOST", VoteWalls.LOST, Long.MIN_VALUE);
    }
}
