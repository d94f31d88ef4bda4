/** Promises 1 to 8 and 37. */
public final class YardTest {
    private static final Check check = new Check("YardTest");

    public static void main(String[] args) {
        newObject();
        texts();
        firstFaults();
        machineFaultsOfYard();
        allAnew();
        ofPrisoner();
        law();
        locks();
        strikes();
        many();
        check.end();
    }

    private static void newObject() {
        VoteWalls x = new VoteWalls();
        for (int what = 0; what <= 6; what++) {
            check.due("new: many(" + what + ")", x.many(what), 0);
        }
        for (int k = 0; k < 4; k++) {
            check.due("new: lose(" + k + ")", x.lose(k), 0);
        }
        check.due("new: fault()", x.fault(), 0);
        check.due("new: trace()", x.trace(), 0);
        check.due("new: rests()", x.rests(), VoteWalls.STATE);
        check.due("new: wide(0, -1)", x.wide(0, -1), VoteWalls.UNKNOWN);
    }

    private static void taken(String text, int prisoners) {
        check.due("yard of " + text, Check.give(new VoteWalls(), text), prisoners);
    }

    private static void texts() {
        taken("v04;01,p00", 1);
        taken("v30;29,b29", 1);
        taken("v30;01;02;03;04;29,p00,t01,b02,p03,t04,b29,p29,p29", 8);
        taken("v10;09,p09,p09", 2);
        taken("v19;18,p18", 1);
        taken("v20;19,t19", 1);
        VoteWalls x = Check.yardOf("v30;01;02;03;04;29,p00,t01,b02,p03,t04,b29,p29,p29");
        check.due("many(0)", x.many(0), 8);
        check.due("many(1)", x.many(1), 5);
        check.due("many(2)", x.many(2), 30);
        check.due("gap(4, -1)", x.gap(4, -1), 29);
        check.due("ofPrisoner(5, 1)", x.ofPrisoner(5, 1), 29);
    }

    private static void faulty(String text, int place) {
        VoteWalls x = Check.yardOf("v12;07;08,t05");
        x.law(1);
        check.due("yard of " + text, Check.give(x, text), -100 - place);
        check.due("fault() behind " + text, x.fault(), 0);
        check.due("many(2) behind " + text, x.many(2), 12);
        check.due("many(6) behind " + text, x.many(6), 1);
    }

    private static void firstFaults() {
        faulty("", 0);
        faulty("w10;05,p01", 0);
        faulty(";05,p01", 0);
        faulty("v", 1);
        faulty("vx", 1);
        faulty("v40", 1);
        faulty("v0", 2);
        faulty("v03;02,p01", 2);
        faulty("v31;02,p01", 2);
        faulty("v1;", 2);
        faulty("v10", 3);
        faulty("v10,p01", 3);
        faulty("v10;", 4);
        faulty("v10;,", 4);
        faulty("v10;10,p01", 4);
        faulty("v10;00,p01", 5);
        faulty("v10;0:,p01", 5);
        faulty("v10;05", 6);
        faulty("v10;05p", 6);
        faulty("v10;05;05,p01", 8);
        faulty("v10;05;04,p01", 8);
        faulty("v10;09;", 7);
        faulty("v10;09;09,p01", 7);
        faulty("v10;09;10,p01", 7);
        faulty("v20;10;09,p01", 7);
        faulty("v20;10;20,p01", 7);
        faulty("v20;09;09,p01", 7);
        faulty("v20;08;08,p01", 8);
        faulty("v25;12;25,p01", 8);
        faulty("v25;24;25,p01", 7);
        faulty("v10;01;02;03;04;05;06,p01", 18);
        faulty("v10;01;02;03;04;05", 18);
        faulty("v10;05,", 7);
        faulty("v10;05,x", 7);
        faulty("v10;05,p", 8);
        faulty("v10;05,p1", 8);
        faulty("v11;05,p1", 9);
        faulty("v11;05,p11", 9);
        faulty("v10;05,p0", 9);
        faulty("v10;05,p01;", 10);
        faulty("v10;05,p01,", 11);
        faulty("v10;05,p01x", 10);
        faulty("v10;05,p01,p01,p01,p01,p01,p01,p01,p01,", 38);
        faulty("v10;05,p01,p01,p01,p01,p01,p01,p01,p01,p01", 38);
        faulty("v10;05,p01,p01,p01,p01,p01,p01,p01,p01;", 38);
    }

    private static void machineFaultsOfYard() {
        VoteWalls x = new VoteWalls();
        check.due("yard(-1, 9, 0, 0)", x.yard(-1, 9, 0, 0), VoteWalls.UNKNOWN);
        check.due("yard(4, 0, 0, 0)", x.yard(4, 0, 0, 0), VoteWalls.UNKNOWN);
        check.due("yard(0, 3, 0, -1)", x.yard(0, 3, 0, -1), VoteWalls.OUTSIDE);
        check.due("yard(0, -1, 0, -1)", x.yard(0, -1, 0, -1), VoteWalls.OUTSIDE);
        check.due("yard of nothing", x.yard(0, 1, 0, -1), -11);
        check.due("fault() of nothing", x.fault(), 1);
        x.sheet(0, 1, 10);
        check.due("yard of another lane", x.yard(0, 2, 0, -1), -12);
        check.due("fault() of another lane", x.fault(), 2);
        check.due("yard of n below 0", x.yard(0, 1, 99, -1), -14);
        check.due("fault() of n below 0", x.fault(), 4);
        check.due("yard(0, 1, 1, 10)", x.yard(0, 1, 1, 10), -13);
        check.due("fault() of it", x.fault(), 3);
        check.due("yard(0, 1, -1, 1)", x.yard(0, 1, -1, 1), -13);
        check.due("yard(0, 1, 11, 0)", x.yard(0, 1, 11, 0), -13);
        check.due("yard(0, 1, 10, 0)", x.yard(0, 1, 10, 0), -100);
        check.due("fault() behind it", x.fault(), 0);
        check.due("yard(0, 1, big, big)", x.yard(0, 1, Integer.MAX_VALUE, Integer.MAX_VALUE), -13);
        check.due("yard refused", x.yard(0, 7, 0, 0), VoteWalls.OUTSIDE);
        check.due("fault() behind a refusal", x.fault(), 0);
    }

    private static void allAnew() {
        VoteWalls x = Check.yardOf("v12;07;08,t05");
        x.law(1);
        x.lock(0, 0, 49);
        x.strike(0, 0, 49);
        x.reading(0, 0, 7);
        x.tell(0);
        int trace = x.trace();
        check.due("yard anew", Check.give(x, "v10;05,p02"), 1);
        for (int what = 3; what <= 6; what++) {
            check.due("many(" + what + ") anew", x.many(what), 0);
        }
        check.due("gap(0, 0) anew", x.gap(0, 0), 6);
        check.due("laws() anew", x.laws(), 3);
        check.due("trace() goes on", x.trace(), trace);
        check.due("sheets stay", x.cell(3, 2, 2), 'v');
    }

    private static void ofPrisoner() {
        VoteWalls x = Check.yardOf("v12;07,p05,t11,b00");
        int[][] due = {{0, 5, 1}, {1, 11, 2}, {2, 0, 4}};
        for (int p = 0; p < 3; p++) {
            for (int what = 0; what < 3; what++) {
                check.due("ofPrisoner(" + p + ", " + what + ")", x.ofPrisoner(p, what), due[p][what]);
            }
        }
        x.strike(2, 0, 49);
        check.due("votes of one on strike", x.ofPrisoner(2, 2), 4);
        check.due("ofPrisoner(3, 9)", x.ofPrisoner(3, 9), VoteWalls.UNKNOWN);
        check.due("ofPrisoner(-1, 0)", x.ofPrisoner(-1, 0), VoteWalls.UNKNOWN);
        check.due("ofPrisoner(0, 3)", x.ofPrisoner(0, 3), VoteWalls.OUTSIDE);
        check.due("ofPrisoner(0, -1)", x.ofPrisoner(0, -1), VoteWalls.OUTSIDE);
    }

    private static void law() {
        VoteWalls none = new VoteWalls();
        check.due("law(2) without a yard", none.law(2), VoteWalls.OUTSIDE);
        check.due("law(1) without a yard", none.law(1), VoteWalls.STATE);
        VoteWalls x = Check.yardOf("v10;04;05,b00,t04");
        check.due("law(-1)", x.law(-1), VoteWalls.OUTSIDE);
        check.due("law 0: gap(0, 0)", x.gap(0, 0), 4);
        check.due("law 0: gap(1, 0)", x.gap(1, 0), 6);
        check.due("law(1)", x.law(1), 0);
        check.due("law 1: gap(0, 0)", x.gap(0, 0), 5);
        check.due("law 1: gap(1, 0)", x.gap(1, 0), 6);
        check.due("law(1) again", x.law(1), 1);
        check.due("law(0)", x.law(0), 1);
        check.due("law 0 again: gap(0, 0)", x.gap(0, 0), 4);
    }

    private static void locks() {
        VoteWalls x = Check.yardOf("v10;05,p02");
        check.due("lock(1, 0, 60)", x.lock(1, 0, 60), VoteWalls.UNKNOWN);
        check.due("lock(-1, 0, 0)", x.lock(-1, 0, 0), VoteWalls.UNKNOWN);
        check.due("lock(0, -1, 0)", x.lock(0, -1, 0), VoteWalls.OUTSIDE);
        check.due("lock(0, 0, 50)", x.lock(0, 0, 50), VoteWalls.OUTSIDE);
        check.due("lock(0, 50, 50)", x.lock(0, 50, 50), VoteWalls.OUTSIDE);
        check.due("lock(0, 2, 1)", x.lock(0, 2, 1), VoteWalls.OUTSIDE);
        check.due("lock(0, 1, 2)", x.lock(0, 1, 2), 0);
        int[] due = {6, 6, 6, 7, 8, 9, 9};
        for (int s = 0; s < due.length; s++) {
            check.due("locked: gap(0, " + s + ")", x.gap(0, s), due[s]);
        }
        check.due("lock(0, 49, 49)", x.lock(0, 49, 49), 1);
        check.due("lock(0, 3, 3)", x.lock(0, 3, 3), 2);
        check.due("gap(0, 3)", x.gap(0, 3), 6);
        check.due("unlock(4)", x.unlock(4), VoteWalls.OUTSIDE);
        check.due("unlock(-1)", x.unlock(-1), VoteWalls.OUTSIDE);
        check.due("unlock(0)", x.unlock(0), 3);
        check.due("unlock(1)", x.unlock(1), 2);
        check.due("gap(0, 3) unlocked", x.gap(0, 3), 7);
        for (int k = 2; k < 6; k++) {
            check.due("lock " + k, x.lock(0, 9, 9), k);
        }
        check.due("lock OUTSIDE ahead of FULL", x.lock(0, 9, 8), VoteWalls.OUTSIDE);
        check.due("lock FULL", x.lock(0, 9, 9), VoteWalls.FULL);
        check.due("many(3)", x.many(3), 6);
        check.due("unlock(6)", x.unlock(6), 0);
        check.due("gap(0, 1) unlocked", x.gap(0, 1), 7);
        x.lock(0, 0, 0);
        check.due("locked on the first Sunday", x.gap(0, 0), 5);
        check.due("and not on the second one", x.gap(0, 1), 6);
        VoteWalls left = Check.yardOf("v10;05,p07");
        left.lock(0, 0, 49);
        check.due("locked against the right ones", left.gap(0, 9), 5);
    }

    private static void strikes() {
        VoteWalls x = Check.yardOf("v10;05,p02,t08");
        check.due("strike(2, 0, 60)", x.strike(2, 0, 60), VoteWalls.UNKNOWN);
        check.due("strike(-1, 0, 0)", x.strike(-1, 0, 0), VoteWalls.UNKNOWN);
        check.due("strike(0, -1, 0)", x.strike(0, -1, 0), VoteWalls.OUTSIDE);
        check.due("strike(0, 0, 50)", x.strike(0, 0, 50), VoteWalls.OUTSIDE);
        check.due("strike(0, 2, 1)", x.strike(0, 2, 1), VoteWalls.OUTSIDE);
        check.due("strike(1, 1, 2)", x.strike(1, 1, 2), 0);
        int[] due = {4, 5, 6, 5, 4, 3, 2, 1, 1};
        for (int s = 0; s < due.length; s++) {
            check.due("on strike: gap(0, " + s + ")", x.gap(0, s), due[s]);
        }
        check.due("strike(0, 0, 0)", x.strike(0, 0, 0), 1);
        check.due("eat(3)", x.eat(3), VoteWalls.OUTSIDE);
        check.due("eat(-1)", x.eat(-1), VoteWalls.OUTSIDE);
        check.due("eat(0)", x.eat(0), 2);
        check.due("eat(2)", x.eat(2), 0);
        check.due("gap(0, 2) as all eat", x.gap(0, 2), 2);
        for (int k = 0; k < 6; k++) {
            check.due("strike " + k, x.strike(1, 49, 49), k);
        }
        check.due("strike UNKNOWN ahead of FULL", x.strike(9, 0, 0), VoteWalls.UNKNOWN);
        check.due("strike FULL", x.strike(1, 49, 49), VoteWalls.FULL);
        check.due("many(4)", x.many(4), 6);
    }

    private static void many() {
        VoteWalls x = Check.yardOf("v12;07;09,t05,p01,p02");
        x.law(1);
        x.lock(0, 0, 1);
        x.strike(0, 0, 1);
        x.strike(0, 0, 1);
        x.reading(0, 0, 1);
        int[] due = {3, 2, 12, 1, 2, 1, 1};
        for (int what = 0; what < due.length; what++) {
            check.due("many(" + what + ")", x.many(what), due[what]);
        }
        check.due("many(7)", x.many(7), VoteWalls.OUTSIDE);
        check.due("many(-1)", x.many(-1), VoteWalls.OUTSIDE);
    }
}
