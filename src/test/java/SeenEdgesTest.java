/** Boundary cases of promises 21 to 26 and of section 4 ahead of them. */
public final class SeenEdgesTest {
    private static final Check check = new Check("SeenEdgesTest");
    private static final int[] NO_NUMBERS = {-1, Integer.MIN_VALUE, Integer.MAX_VALUE};
    private static final int[] NO_SUNDAYS = {-1, 50, Integer.MIN_VALUE, Integer.MAX_VALUE};
    private static final String EIGHT = "v10;05,p00,p01,p02,p03,p05,p06,p07,p08";

    public static void main(String[] args) {
        readingOfNoBoard();
        readingSunday();
        readingGap();
        readingsFull();
        readingsNumbered();
        readingsAlike();
        backOutside();
        backTheLast();
        struckWithoutYard();
        struckWithoutReadings();
        struckNobody();
        struckEachAlone();
        struckOnTheLastSunday();
        lawsWithoutYard();
        lawsWithoutReadings();
        lawsNone();
        lawsOnTheLastSunday();
        stoodUnknown();
        stoodWithoutReadings();
        stoodNowhere();
        stoodAtTheEnds();
        stoodInPlaceOfHisOwn();
        oddsUnknown();
        oddsOutside();
        oddsNever();
        oddsAlways();
        oddsLeastTerms();
        oddsOfAllSets();
        oddsBesidesStrikes();
        oddsAtFirstAndAtLast();
        check.end();
    }

    // ---- READINGS

    private static void readingOfNoBoard() {
        check.under("Promise 21", "UNKNOWN");
        VoteWalls x = Check.yardOf("v10;01;02;03;04;05,p09");
        check.due("the first one", x.reading(0, 0, 1), 0);
        check.due("the fifth one", x.reading(4, 0, 5), 1);
        check.due("a sixth one", x.reading(5, 0, 5), VoteWalls.UNKNOWN);
        check.due("behind the last one", Check.yardOf("v10;05,p02").reading(1, 0, 5), VoteWalls.UNKNOWN);
        check.due("without a yard", new VoteWalls().reading(0, 0, 5), VoteWalls.UNKNOWN);
        for (int b : NO_NUMBERS) {
            check.due("reading(" + b + ", 0, 5)", x.reading(b, 0, 5), VoteWalls.UNKNOWN);
            check.due("UNKNOWN ahead of OUTSIDE", x.reading(b, 50, 31), VoteWalls.UNKNOWN);
        }
        check.due("many(5)", x.many(5), 2);
    }

    private static void readingSunday() {
        check.under("Promise 21", "OUTSIDE: sunday");
        VoteWalls x = Check.yardOf("v10;05,p02");
        for (int s : NO_SUNDAYS) {
            check.due("sunday " + s, x.reading(0, s, 5), VoteWalls.OUTSIDE);
        }
        check.due("none came of it", x.many(5), 0);
        check.due("sunday 0", x.reading(0, 0, 6), 0);
        check.due("sunday 49", x.reading(0, 49, 9), 1);
        check.due("both are so", x.laws(), 3);
    }

    private static void readingGap() {
        check.under("Promise 21", "OUTSIDE: gap (0 .. 30)");
        VoteWalls x = Check.yardOf("v10;05,p02");
        for (int gap : NO_NUMBERS) {
            check.due("gap " + gap, x.reading(0, 0, gap), VoteWalls.OUTSIDE);
        }
        check.due("gap 31", x.reading(0, 0, 31), VoteWalls.OUTSIDE);
        check.due("none came of it", x.many(5), 0);
        // 0 .. 30 whatever the INCHES are, though no BOARD can ever be there
        check.due("gap 0", x.reading(0, 0, 0), 0);
        check.due("gap 10 of 10", x.reading(0, 0, 10), 1);
        check.due("gap 30", x.reading(0, 0, 30), 2);
        check.due("gap 30 of 4", Check.yardOf("v04;01,p00").reading(0, 0, 30), 0);
    }

    private static void readingsFull() {
        check.under("Promise 21", "FULL");
        VoteWalls x = Check.yardOf("v10;05,p02");
        for (int k = 0; k < 8; k++) {
            check.due("reading " + k, x.reading(0, 0, 6), k);
        }
        check.due("a ninth one", x.reading(0, 0, 7), VoteWalls.FULL);
        check.due("UNKNOWN ahead of FULL", x.reading(1, 0, 6), VoteWalls.UNKNOWN);
        check.due("OUTSIDE (sunday) ahead of FULL", x.reading(0, 50, 6), VoteWalls.OUTSIDE);
        check.due("OUTSIDE (gap) ahead of FULL", x.reading(0, 0, 31), VoteWalls.OUTSIDE);
        check.due("many(5)", x.many(5), 8);
        check.due("the ninth one is none", x.laws(), 3);
    }

    private static void readingsNumbered() {
        check.under("section 4", "READINGS, 8 at most, numbered by how many there are");
        VoteWalls x = Check.yardOf("v10;05,p02");
        x.reading(0, 0, 6);
        x.reading(0, 1, 9);
        x.reading(0, 2, 9);
        check.due("back(2)", x.back(2), 1);
        check.due("the next one", x.reading(0, 1, 7), 1);
        check.due("and the next one", x.reading(0, 2, 8), 2);
        check.due("all are so", x.laws(), 3);
        // the eighth one counts like the first one
        for (int k = 3; k < 7; k++) {
            x.reading(0, k, 9);
        }
        check.due("seven are so", x.laws(), 3);
        check.due("an eighth one", x.reading(0, 49, 8), 7);
        check.due("that one is not so", x.laws(), 0);
    }

    private static void readingsAlike() {
        check.under("section 4", "all READINGS are so");
        VoteWalls x = Check.yardOf("v10;05,p02");
        x.reading(0, 0, 6);
        x.reading(0, 0, 6);
        check.due("twice the same", x.laws(), 3);
        x.reading(0, 0, 7);
        check.due("one against another", x.laws(), 0);
        check.due("nobody", x.struck(), 0);
        check.due("nowhere", x.stood(0), 0);
    }

    private static void backOutside() {
        check.under("Promise 22", "k (0 .. as many as there are); OUTSIDE");
        VoteWalls x = Check.yardOf("v10;05,p02");
        check.due("none of none", x.back(0), 0);
        check.due("one of none", x.back(1), VoteWalls.OUTSIDE);
        x.reading(0, 0, 6);
        x.reading(0, 0, 7);
        check.due("none of two", x.back(0), 2);
        check.due("three of two", x.back(3), VoteWalls.OUTSIDE);
        for (int k : NO_NUMBERS) {
            check.due("back(" + k + ")", x.back(k), VoteWalls.OUTSIDE);
        }
        check.due("both are there", x.laws(), 0);
        check.due("two of two", x.back(2), 0);
        check.due("one more", x.back(1), VoteWalls.OUTSIDE);
        check.due("none is there", x.laws(), 3);
    }

    private static void backTheLast() {
        check.under("Promise 22", "The last k READINGS are taken back: how many are left");
        VoteWalls x = Check.yardOf("v10;05,p02");
        x.reading(0, 0, 5);
        x.reading(0, 0, 6);
        check.due("back(1)", x.back(1), 1);
        check.due("the first one is there, which is not so", x.laws(), 0);
        check.due("back(1) again", x.back(1), 0);
        check.due("it is taken back", x.laws(), 3);
        for (int k = 0; k < 8; k++) {
            x.reading(0, 0, 6);
        }
        check.due("back(8)", x.back(8), 0);
    }

    // ---- STRUCK

    private static void struckWithoutYard() {
        check.under("Promise 23", "STATE: there is no YARD");
        check.due("struck()", new VoteWalls().struck(), VoteWalls.STATE);
    }

    private static void struckWithoutReadings() {
        check.under("section 4", "STRUCK: no READINGS: all of them are so");
        check.due("one", Check.yardOf("v10;05,p02").struck(), 1);
        check.due("eight", Check.yardOf(EIGHT).struck(), 255);
    }

    private static void struckNobody() {
        check.under("section 4", "STRUCK: as a set of none");
        VoteWalls x = Check.yardOf(EIGHT);
        x.reading(0, 0, 5);
        check.due("as many on both sides, if nobody is on strike", x.gap(0, 0), 5);
        check.due("but one is", x.struck(), 0);
    }

    private static void struckEachAlone() {
        check.under("section 4", "were they on STRIKE on all SUNDAYS (each alone)");
        VoteWalls x = Check.yardOf(EIGHT);
        x.reading(0, 0, 4);
        check.due("each of the left ones", x.struck(), 15);
        x.back(1);
        x.reading(0, 0, 6);
        check.due("each of the right ones", x.struck(), 240);
        // two on strike at once would do, none alone does
        VoteWalls y = Check.yardOf("v10;05,p00,p01,p05");
        y.reading(0, 0, 4);
        check.due("none alone", y.struck(), 0);
        check.due("strikes stay as they are", y.many(4), 0);
    }

    private static void struckOnTheLastSunday() {
        check.under("section 4", "READINGS: as a SUNDAY ended a BOARD was at a GAP");
        VoteWalls x = Check.yardOf("v10;05,p00,p05");
        x.lock(0, 0, 48);
        x.reading(0, 48, 5);
        check.due("SUNDAY 48", x.struck(), 3);
        x.reading(0, 49, 6);
        check.due("SUNDAY 49", x.struck(), 2);
    }

    // ---- LAWS

    private static void lawsWithoutYard() {
        check.under("Promise 24", "STATE: there is no YARD");
        check.due("laws()", new VoteWalls().laws(), VoteWalls.STATE);
    }

    private static void lawsWithoutReadings() {
        check.under("section 4", "LAWS: no READINGS: all of them are so");
        check.due("both", Check.yardOf("v10;05,p02").laws(), 3);
    }

    private static void lawsNone() {
        check.under("section 4", "LAWS: those by which all READINGS are so, as a set");
        VoteWalls x = Check.yardOf("v10;04;05,p04,b05");
        x.reading(0, 0, 3);
        check.due("by both", x.laws(), 3);
        x.reading(1, 0, 4);
        check.due("by LAW 0", x.laws(), 1);
        x.back(1);
        x.reading(1, 0, 5);
        check.due("by LAW 1", x.laws(), 2);
        x.reading(1, 0, 4);
        check.due("by none", x.laws(), 0);
        check.due("the LAW stays as it is", x.many(6), 0);
    }

    private static void lawsOnTheLastSunday() {
        check.under("section 4", "READINGS: as a SUNDAY ended a BOARD was at a GAP");
        VoteWalls x = Check.yardOf("v10;04;05,p04,b05");
        x.lock(0, 0, 48);
        x.lock(1, 0, 48);
        x.reading(1, 48, 5);
        check.due("SUNDAY 48", x.laws(), 3);
        x.reading(1, 49, 4);
        check.due("SUNDAY 49", x.laws(), 1);
    }

    // ---- STOOD

    private static void stoodUnknown() {
        check.under("Promise 25", "UNKNOWN");
        VoteWalls x = Check.yardOf(EIGHT);
        check.due("the first one", x.stood(0), 1023);
        check.due("the eighth one", x.stood(7), 1023);
        check.due("a ninth one", x.stood(8), VoteWalls.UNKNOWN);
        check.due("behind the last one", Check.yardOf("v10;05,p02").stood(1), VoteWalls.UNKNOWN);
        check.due("without a yard", new VoteWalls().stood(0), VoteWalls.UNKNOWN);
        for (int p : NO_NUMBERS) {
            check.due("stood(" + p + ")", x.stood(p), VoteWalls.UNKNOWN);
        }
    }

    private static void stoodWithoutReadings() {
        check.under("section 4", "STOOD: no READINGS: all PLACES");
        check.due("4 of them", Check.yardOf("v04;01,p00").stood(0), 15);
        check.due("30 of them", Check.yardOf("v30;01,p00").stood(0), (1 << 30) - 1);
    }

    private static void stoodNowhere() {
        check.under("section 4", "STOOD: as a set of none");
        VoteWalls x = Check.yardOf("v10;05,p02");
        x.reading(0, 0, 0);
        check.due("GAP 0", x.stood(0), 0);
        x.back(1);
        x.reading(0, 0, 30);
        check.due("GAP 30", x.stood(0), 0);
        x.back(1);
        x.reading(0, 0, 5);
        check.due("he votes, wherever he is", x.stood(0), 0);
    }

    private static void stoodAtTheEnds() {
        check.under("section 4", "STOOD of a PRISONER: PLACES, in place of his own");
        VoteWalls x = Check.yardOf("v30;15,p07");
        int left = (1 << 15) - 1;
        x.reading(0, 0, 16);
        check.due("left of it: 0 .. 14", x.stood(0), left);
        x.back(1);
        x.reading(0, 0, 14);
        check.due("right of it: 15 .. 29", x.stood(0), (1 << 30) - 1 - left);
        VoteWalls first = Check.yardOf("v10;01,p05");
        first.reading(0, 0, 2);
        check.due("place 0 alone", first.stood(0), 1);
        VoteWalls last = Check.yardOf("v10;09,p05");
        last.reading(0, 0, 8);
        check.due("the last place alone", last.stood(0), 512);
    }

    private static void stoodInPlaceOfHisOwn() {
        check.under("section 4", "STOOD: in place of his own");
        VoteWalls x = Check.yardOf("v10;05,p02,p07");
        x.reading(0, 0, 6);
        check.due("his own is none of them", x.stood(1), 31);
        check.due("his place stays", x.ofPrisoner(1, 1), 7);
        check.due("nothing moves, as he stands", x.gap(0, 49), 5);
        x.lock(0, 0, 48);
        check.due("locked on 0", x.stood(1), 0);
        x.back(1);
        x.reading(0, 49, 6);
        check.due("on SUNDAY 49", x.stood(1), 31);
    }

    // ---- ODDS

    private static void share(VoteWalls x, String what, int[] of, long upper, long lower) {
        check.due(what + ", upper", x.odds(of[0], of[1], of[2], 0), upper);
        check.due(what + ", lower", x.odds(of[0], of[1], of[2], 1), lower);
    }

    private static int[] of(int p, int other, int sunday) {
        return new int[] {p, other, sunday};
    }

    private static void oddsUnknown() {
        check.under("Promise 26", "LOST: UNKNOWN");
        VoteWalls x = Check.yardOf(EIGHT);
        check.due("the first and the eighth one", x.odds(0, 7, 0, 0), 0);
        check.due("a ninth one", x.odds(8, 0, 0, 0), VoteWalls.LOST);
        check.due("and a ninth one", x.odds(0, 8, 0, 0), VoteWalls.LOST);
        check.due("a ninth one twice", x.odds(8, 8, 0, 0), VoteWalls.LOST);
        for (int p : NO_NUMBERS) {
            check.due("odds(" + p + ", 0, 0, 0)", x.odds(p, 0, 0, 0), VoteWalls.LOST);
            check.due("odds(0, " + p + ", 0, 0)", x.odds(0, p, 0, 0), VoteWalls.LOST);
        }
        check.due("without a yard", new VoteWalls().odds(0, 0, 0, 0), VoteWalls.LOST);
    }

    private static void oddsOutside() {
        check.under("Promise 26", "LOST: OUTSIDE: sunday, which");
        VoteWalls x = Check.yardOf("v10;05,p02,p07");
        for (int s : NO_SUNDAYS) {
            check.due("sunday " + s, x.odds(0, 1, s, 0), VoteWalls.LOST);
        }
        check.due("which 2", x.odds(0, 1, 0, 2), VoteWalls.LOST);
        for (int which : NO_NUMBERS) {
            check.due("which " + which, x.odds(0, 1, 0, which), VoteWalls.LOST);
        }
        check.due("no fault comes of it", x.fault(), 0);
        check.due("sunday 0", x.odds(0, 0, 0, 0), 1);
        check.due("sunday 49", x.odds(0, 0, 49, 1), 1);
    }

    private static void oddsNever() {
        check.under("Terms", "Shares are told as upper and lower number (above 0)");
        share(Check.yardOf("v10;05,p00,p09"), "never", of(0, 1, 49), 0, 1);
        share(Check.yardOf("v30;15,p00,p00,p00,p00,p29,p29,p29,p29"), "never, of eight", of(0, 7, 0), 0, 1);
    }

    private static void oddsAlways() {
        check.under("Terms", "Shares are told in least terms");
        share(Check.yardOf("v10;05,p02"), "himself", of(0, 0, 0), 1, 1);
        share(Check.yardOf("v10;05,p02,p02"), "at one place", of(0, 1, 49), 1, 1);
        share(Check.yardOf(EIGHT), "himself, of eight", of(7, 7, 49), 1, 1);
    }

    private static void oddsLeastTerms() {
        check.under("Terms", "Shares are told in least terms");
        // they are parted only as long as the board is at 5: if none votes
        share(Check.yardOf("v10;05,p04,t05"), "three of four", of(0, 1, 0), 3, 4);
        // or if both vote, and have as many votes
        share(Check.yardOf("v10;05,p04,p05"), "two of four", of(0, 1, 0), 1, 2);
        share(Check.yardOf("v10;05,p03,p05"), "one of four", of(0, 1, 0), 1, 4);
        // p09 counts for nothing here but doubles all sets
        share(Check.yardOf("v10;05;08,p03,p05,p09"), "two of eight", of(0, 1, 0), 1, 4);
    }

    private static void oddsOfAllSets() {
        check.under("section 4", "ODDS: all such sets alike");
        VoteWalls few = Check.yardOf("v10;05,p00,p05,p05,p05,p05,p05,p05,p05");
        share(few, "he alone votes", of(0, 1, 0), 1, 256);
        VoteWalls most = Check.yardOf("v10;05,p00,p05,p06,p06,p06,p06,p06,p06");
        share(most, "all but that", of(1, 2, 0), 255, 256);
        check.due("strikes stay as they are", few.many(4), 0);
    }

    private static void oddsBesidesStrikes() {
        check.under("section 4", "ODDS: if each PRISONER is on STRIKE on all SUNDAYS, or is not (besides all STRIKES)");
        VoteWalls x = Check.yardOf("v10;05,p00,p05");
        share(x, "one of four", of(0, 1, 0), 1, 4);
        x.strike(1, 0, 0);
        share(x, "p05 is on strike as it is", of(0, 1, 0), 1, 2);
        x.strike(0, 0, 0);
        share(x, "both are", of(0, 1, 0), 0, 1);
    }

    private static void oddsAtFirstAndAtLast() {
        check.under("section 4", "ODDS: in one CELL as it ends");
        VoteWalls x = Check.yardOf("v10;05,p00,p05");
        x.lock(0, 0, 48);
        share(x, "SUNDAY 48", of(0, 1, 48), 0, 1);
        share(x, "SUNDAY 49", of(0, 1, 49), 1, 4);
    }
}
