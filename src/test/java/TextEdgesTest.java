/** Boundary cases of promise 2 and of section 1 ahead of it: what is a TEXT, and where one is none. */
public final class TextEdgesTest {
    private static final Check check = new Check("TextEdgesTest");
    private static final String LONGEST = "v30;01;02;03;04;29,p00,t01,b02,p03,t04,b29,p29,p29";

    public static void main(String[] args) {
        beginsWithV();
        inches();
        howManyBoards();
        gapAboveTheOneAhead();
        gapAboveNone();
        gapBelowInches();
        howManyPrisoners();
        letters();
        places();
        severalAtOnePlace();
        secondDigit();
        firstDigit();
        noNumberAtAll();
        allNumbersOfTwoDigits();
        sixthBoard();
        ninthPrisoner();
        endsTooSoon();
        everyCodeSpoilt();
        codesBesideDigits();
        codesAreCutToTheirLane();
        codesFarOff();
        takenMakesAllAnew();
        notTakenChangesNothing();
        cellsFromIOn();
        faultsOfCells();
        faultsInTheirOrder();
        check.end();
    }

    private static void taken(String text, int prisoners) {
        check.due("yard of " + text, Check.give(new VoteWalls(), text), prisoners);
    }

    private static void faulty(String text, int place) {
        check.due("yard of " + text, Check.give(new VoteWalls(), text), -100 - place);
    }

    private static String two(int number) {
        return String.valueOf(number / 10) + number % 10;
    }

    private static void beginsWithV() {
        check.under("section 1", "A YARD by a TEXT: v, two digits");
        VoteWalls x = Check.yardOf("v10;05,p00");
        Check.give(x, "v12;05,p00");
        check.due("a text without INCHES, as the yards had some", Check.give(x, ";05,p00"), -100);
        check.due("no v", Check.give(x, "10;05,p00"), -100);
        check.due("another code", Check.give(x, "w10;05,p00"), -100);
        check.due("two of them", Check.give(x, "vv10;05,p00"), -101);
        check.due("none at all", Check.give(x, ""), -100);
        check.due("the yard is as it was", x.many(2), 12);
    }

    private static void inches() {
        check.under("section 1", "INCHES, 04 .. 30");
        faulty("v00;01,p00", 2);
        faulty("v03;01,p00", 2);
        taken("v04;01,p00", 1);
        taken("v04;03,p03", 1);
        taken("v30;29,p29", 1);
        faulty("v31;01,p00", 2);
        faulty("v39;01,p00", 2);
        faulty("v40;01,p00", 1);
        faulty("v99;01,p00", 1);
    }

    private static void howManyBoards() {
        check.under("section 1", "then 1 to 5 BOARDS");
        faulty("v10,p00", 3);
        String text = "v10";
        for (int b = 1; b <= 5; b++) {
            text += ";0" + b;
            taken(text + ",p00", 1);
            check.due("many(1) of " + text, Check.yardOf(text + ",p00").many(1), b);
        }
        faulty(text + ";06,p00", 18);
    }

    private static void gapAboveTheOneAhead() {
        check.under("section 1", "its GAP: above that of the one ahead");
        taken("v20;05;06,p00", 1);
        faulty("v20;05;05,p00", 8);
        faulty("v20;05;04,p00", 8);
        taken("v20;09;10,p00", 1);
        faulty("v20;09;09,p00", 7);
        faulty("v20;10;10,p00", 8);
        faulty("v20;10;09,p00", 7);
        // above the one just ahead, not above the first one alone
        faulty("v20;05;12;11,p00", 11);
    }

    private static void gapAboveNone() {
        check.under("section 1", "its GAP: above 0");
        faulty("v20;00,p00", 5);
        taken("v20;01,p00", 1);
    }

    private static void gapBelowInches() {
        check.under("section 1", "its GAP: below INCHES");
        taken("v15;14,p00", 1);
        faulty("v15;15,p00", 5);
        faulty("v15;16,p00", 5);
        taken("v20;19,p00", 1);
        faulty("v20;20,p00", 4);
        taken("v04;03,p00", 1);
        faulty("v04;04,p00", 5);
        faulty("v04;10,p00", 4);
    }

    private static void howManyPrisoners() {
        check.under("section 1", "then 1 to 8 PRISONERS");
        faulty("v10;05", 6);
        String text = "v10;05";
        for (int p = 1; p <= 8; p++) {
            text += ",p09";
            taken(text, p);
            check.due("many(0) of " + text, Check.yardOf(text).many(0), p);
        }
        faulty(text + ",p09", 38);
    }

    private static void letters() {
        check.under("section 1", "Kinds: 0 PRISONER (p); 1 TALL (t), a PRISONER; 2 BULLY (b), a TALL one");
        int[] codes = {'v', '1', '0', ';', '0', '5', ',', 0, '0', '0'};
        for (int code = -1; code <= 256; code++) {
            VoteWalls x = new VoteWalls();
            codes[7] = code;
            int kind = code == 112 ? 0 : code == 116 ? 1 : code == 98 ? 2 : -1;
            check.due("letter " + code, Check.giveCodes(x, 2, codes), kind < 0 ? -107 : 1);
            check.due("kind by letter " + code, x.ofPrisoner(0, 0), kind < 0 ? VoteWalls.UNKNOWN : kind);
        }
    }

    private static void places() {
        check.under("section 1", "his PLACE: 00 .. INCHES less 1");
        taken("v15;05,p00", 1);
        taken("v15;05,p14", 1);
        faulty("v15;05,p15", 9);
        taken("v20;05,p19", 1);
        faulty("v20;05,p20", 8);
        taken("v30;05,p29", 1);
        faulty("v30;05,p30", 8);
        taken("v04;01,p03", 1);
        faulty("v04;01,p04", 9);
        faulty("v04;01,p10", 8);
    }

    private static void severalAtOnePlace() {
        check.under("section 1", "several may be at one");
        taken("v10;05,p05,p05", 2);
        taken("v10;05,b00,b00,b00,b00,b00,b00,b00,b00", 8);
        taken("v10;05,p09,t08,p00", 3);
    }

    private static void secondDigit() {
        check.under("section 1", "of two digits the second one, if no such number can be with it");
        faulty("v0", 2);
        faulty("v0;", 2);
        faulty("v3;", 2);
        faulty("v10;0", 5);
        faulty("v10;0,", 5);
        faulty("v10;05,p0,", 9);
    }

    private static void firstDigit() {
        check.under("section 1", "or the first one, if none begins so");
        faulty("v;", 1);
        faulty("v4", 1);
        faulty("v10;1", 4);
        faulty("v10;;", 4);
        faulty("v20;10;0", 7);
        faulty("v10;05,p1", 8);
        faulty("v10;05,pp", 8);
    }

    private static void noNumberAtAll() {
        check.under("section 1", "also if there is none at all, as behind a GAP of INCHES less 1");
        faulty("v10;09;", 7);
        faulty("v10;09;0", 7);
        faulty("v10;09;09", 7);
        faulty("v10;09;10", 7);
        faulty("v25;24;2", 7);
        faulty("v04;01;02;03;0", 13);
        faulty("v30;26;27;28;29;2", 16);
    }

    /** 0: a number of least .. most; 1, 2: how far the digit that is wrong is, with 1 for the first one. */
    private static int wrongDigit(int number, int least, int most) {
        boolean begins = false;
        for (int n = least; n <= most; n++) {
            begins |= n / 10 == number / 10;
        }
        return !begins ? 1 : number < least || number > most ? 2 : 0;
    }

    private static void numberIs(String ahead, int number, String behind, int least, int most) {
        int wrong = wrongDigit(number, least, most);
        String text = ahead + two(number) + behind;
        if (wrong == 0) {
            taken(text, 1);
        } else {
            faulty(text, ahead.length() + wrong - 1);
        }
    }

    private static void allNumbersOfTwoDigits() {
        check.under("section 1", "the first code with which no TEXT goes on");
        for (int n = 0; n < 100; n++) {
            numberIs("v", n, ";01,p00", 4, 30);
            numberIs("v17;", n, ",p00", 1, 16);
            numberIs("v30;", n, ",p00", 1, 29);
            numberIs("v17;05,p", n, "", 0, 16);
            numberIs("v20;05,t", n, "", 0, 19);
        }
        for (int gap = 1; gap < 25; gap++) {
            for (int n = 0; n < 100; n++) {
                numberIs("v25;" + two(gap) + ";", n, ",b00", gap + 1, 24);
            }
        }
    }

    private static void sixthBoard() {
        check.under("section 1", "the ; of a sixth BOARD");
        faulty("v30;01;02;03;04;05;", 18);
        faulty("v30;01;02;03;04;05;06,p00", 18);
        // also where no GAP is left for it
        faulty("v06;01;02;03;04;05;06,p00", 18);
    }

    private static void ninthPrisoner() {
        check.under("section 1", "the , of a ninth PRISONER");
        faulty(LONGEST + ",", 50);
        faulty(LONGEST + ",p00", 50);
        taken(LONGEST, 8);
    }

    private static void endsTooSoon() {
        check.under("section 1", "how many codes there are, if it just ends too soon");
        for (int n = 0; n <= LONGEST.length(); n++) {
            // behind a PLACE it may end
            boolean whole = n >= 22 && (n - 18) % 4 == 0;
            String text = LONGEST.substring(0, n);
            if (whole) {
                taken(text, (n - 18) / 4);
            } else {
                faulty(text, n);
            }
        }
    }

    private static void everyCodeSpoilt() {
        check.under("section 1", "FIRST FAULT: the place (from 0 on)");
        for (int k = 0; k < LONGEST.length(); k++) {
            faulty(LONGEST.substring(0, k) + "x" + LONGEST.substring(k + 1), k);
            faulty(LONGEST.substring(0, k) + "x", k);
            // a later fault does not count
            faulty(LONGEST.substring(0, k) + "xx", k);
        }
    }

    private static void codesBesideDigits() {
        check.under("section 1", "digits 48 .. 57");
        faulty("v1/;05,p00", 2);
        taken("v10;05,p00", 1);
        taken("v19;05,p00", 1);
        faulty("v1:;05,p00", 2);
        faulty("v/5;01,p00", 1);
        faulty("v10;/5,p00", 4);
        faulty("v10;0:,p00", 5);
        faulty("v10;0/,p00", 5);
        faulty("v10;05,p/0", 8);
        faulty("v10;05,p0:", 9);
        faulty("v10;05,p0/", 9);
        faulty("V10;05,p00", 0);
        faulty("v10:05,p00", 3);
        faulty("v10;05.p00", 6);
    }

    private static int[] codesOf(String text) {
        int[] codes = new int[text.length()];
        for (int k = 0; k < codes.length; k++) {
            codes[k] = text.charAt(k);
        }
        return codes;
    }

    private static void codesAreCutToTheirLane() {
        check.under("section 5", "what comes to a cell of it is cut to its LANE");
        for (int lane = 0; lane < 3; lane++) {
            int[] codes = codesOf("v10;05,p00");
            check.due("lane " + lane, Check.giveCodes(new VoteWalls(), lane, codes), 1);
            codes[3] += 256;
            check.due("256 more in lane " + lane, Check.giveCodes(new VoteWalls(), lane, codes), lane == 0 ? 1 : -103);
            codes[3] += 65536 - 256;
            check.due("65536 more in lane " + lane, Check.giveCodes(new VoteWalls(), lane, codes), lane < 2 ? 1 : -103);
        }
    }

    private static void codesFarOff() {
        check.under("section 1", "the first code with which no TEXT goes on");
        int[] far = {Integer.MIN_VALUE, Integer.MIN_VALUE + 48, -48, -1, 0, 256, Integer.MAX_VALUE};
        for (int code : far) {
            for (int k = 0; k < 10; k++) {
                int[] codes = codesOf("v10;05,p00");
                codes[k] = code;
                check.due("code " + code + " at " + k, Check.giveCodes(new VoteWalls(), 2, codes), -100 - k);
            }
        }
    }

    private static VoteWalls withRules() {
        VoteWalls x = Check.yardOf("v12;06;08,t05,p09");
        x.law(1);
        x.lock(0, 0, 49);
        x.strike(0, 0, 49);
        x.reading(1, 0, 7);
        x.tell(0);
        return x;
    }

    private static void takenMakesAllAnew() {
        check.under("section 1", "A TEXT that is taken makes all anew: the LAW is 0, no LOCKS, no STRIKES, no READINGS");
        VoteWalls x = withRules();
        check.due("laws() ahead of it", x.laws(), 3);
        check.due("gap(0, 0) ahead of it", x.gap(0, 0), 6);
        check.due("gap(1, 0) ahead of it", x.gap(1, 0), 7);
        check.due("yard again", Check.give(x, "v12;06;08,t05,p09"), 2);
        for (int what = 3; what <= 6; what++) {
            check.due("many(" + what + ")", x.many(what), 0);
        }
        // by law 0 board 0 goes to 7 first, and is then in the way of board 1
        check.due("gap(0, 0)", x.gap(0, 0), 7);
        check.due("gap(1, 0)", x.gap(1, 0), 8);
        check.due("unlock(1)", x.unlock(1), VoteWalls.OUTSIDE);
        check.due("eat(1)", x.eat(1), VoteWalls.OUTSIDE);
        check.due("back(1)", x.back(1), VoteWalls.OUTSIDE);
        check.due("lock(0, 0, 0)", x.lock(0, 0, 0), 0);
        check.due("strike(0, 0, 0)", x.strike(0, 0, 0), 0);
        check.due("reading(0, 0, 0)", x.reading(0, 0, 0), 0);
        check.due("fewer boards", Check.give(x, "v10;05,p02"), 1);
        check.due("gap(1, -1)", x.gap(1, -1), VoteWalls.UNKNOWN);
        check.due("ofPrisoner(1, 0)", x.ofPrisoner(1, 0), VoteWalls.UNKNOWN);
        check.due("wide(1, -1)", x.wide(1, -1), 5);
        check.due("wide(2, -1)", x.wide(2, -1), VoteWalls.UNKNOWN);
        check.due("gap(0, 0) unlocked", x.gap(0, 0), 6);
    }

    private static void notTakenChangesNothing() {
        check.under("Promise 2", "-100 less the FIRST FAULT");
        String[] texts = {"", "v31", "v20;05", "v20;05;06;07;08;09,p00x", "v05;01,p00,p01,p02,p03,p04,"};
        for (String text : texts) {
            VoteWalls x = withRules();
            String before = rulesOf(x);
            check.isTrue(text + " is not taken", Check.give(x, text) <= -100);
            check.due("fault()", x.fault(), 0);
            check.isTrue("all is as it was behind " + text, rulesOf(x).equals(before));
        }
    }

    private static String rulesOf(VoteWalls x) {
        StringBuilder told = new StringBuilder();
        for (int what = 0; what <= 6; what++) {
            told.append(x.many(what)).append(' ');
        }
        for (int p = 0; p < 2; p++) {
            told.append(x.ofPrisoner(p, 0)).append(' ').append(x.ofPrisoner(p, 1)).append(' ');
        }
        for (int s = -1; s < 10; s++) {
            told.append(x.gap(0, s)).append(' ').append(x.gap(1, s)).append(' ');
        }
        return told.append(x.laws()).append(' ').append(x.trace()).toString();
    }

    private static void cellsFromIOn() {
        check.under("Promise 2", "A YARD by a TEXT of n cells of a SHEET from i on");
        VoteWalls x = new VoteWalls();
        String cells = "xv10;05,p00,t09;";
        x.sheet(1, 0, cells.length());
        for (int k = 0; k < cells.length(); k++) {
            x.put(1, k, cells.charAt(k));
        }
        check.due("from 0 on", x.yard(1, 0, 0, 16), -100);
        check.due("from 1 on, to the end", x.yard(1, 0, 1, 15), -114);
        check.due("from 1 on, two prisoners", x.yard(1, 0, 1, 14), 2);
        check.due("from 1 on, one prisoner", x.yard(1, 0, 1, 10), 1);
        check.due("from 1 on, none", x.yard(1, 0, 1, 6), -106);
        check.due("no cells", x.yard(1, 0, 1, 0), -100);
        check.due("no cells, from the end on", x.yard(1, 0, 16, 0), -100);
        x.yard(1, 0, 1, 14);
        x.put(1, 5, '9');
        x.lose(1);
        check.due("the yard stays, whatever becomes of the sheet", x.gap(0, -1), 5);
    }

    private static void faultsOfCells() {
        check.under("Terms", "INDEX (of cells from i on also where i is not 0 .. how many there are, if none is taken)");
        VoteWalls x = new VoteWalls();
        x.sheet(0, 2, 10);
        int[][] beyond = {{-1, 0}, {-1, 1}, {11, 0}, {10, 1}, {0, 11}, {1, 10}, {Integer.MIN_VALUE, 0},
            {Integer.MAX_VALUE, 0}, {Integer.MAX_VALUE, 1}, {1, Integer.MAX_VALUE}, {-1, Integer.MAX_VALUE}};
        for (int[] cells : beyond) {
            check.due("yard(0, 2, " + cells[0] + ", " + cells[1] + ")", x.yard(0, 2, cells[0], cells[1]), -13);
            check.due("fault()", x.fault(), 3);
        }
        check.due("yard(0, 2, 10, 0)", x.yard(0, 2, 10, 0), -100);
        check.due("yard(0, 2, 0, 10)", x.yard(0, 2, 0, 10), -100);
        x.sheet(1, 2, 0);
        check.due("a row of none: yard(1, 2, 0, 0)", x.yard(1, 2, 0, 0), -100);
        check.due("a row of none: yard(1, 2, 1, 0)", x.yard(1, 2, 1, 0), -13);
        check.due("a row of none: yard(1, 2, 0, 1)", x.yard(1, 2, 0, 1), -13);
    }

    private static void faultsInTheirOrder() {
        check.under("Promise 2", "UNKNOWN; OUTSIDE: lane; FAULTS CAST (nothing is no CAST), NULL, SIZE, INDEX; -100 less it");
        VoteWalls x = new VoteWalls();
        x.sheet(0, 1, 3);
        int[] sheets = {-1, 4, Integer.MIN_VALUE, Integer.MAX_VALUE};
        for (int sheet : sheets) {
            check.due("UNKNOWN ahead of OUTSIDE: sheet " + sheet, x.yard(sheet, 3, -1, -1), VoteWalls.UNKNOWN);
        }
        int[] lanes = {-1, 3, Integer.MIN_VALUE, Integer.MAX_VALUE};
        for (int lane : lanes) {
            check.due("OUTSIDE ahead of CAST: lane " + lane, x.yard(0, lane, -1, -1), VoteWalls.OUTSIDE);
            check.due("OUTSIDE ahead of NULL: lane " + lane, x.yard(1, lane, -1, -1), VoteWalls.OUTSIDE);
        }
        check.due("CAST ahead of SIZE: lane 0", x.yard(0, 0, -1, -1), -12);
        check.due("CAST ahead of INDEX: lane 2", x.yard(0, 2, 9, 1), -12);
        for (int lane = 0; lane < 3; lane++) {
            check.due("nothing is no CAST, lane " + lane, x.yard(3, lane, -1, -1), -11);
            check.due("fault()", x.fault(), 1);
        }
        check.due("SIZE ahead of INDEX", x.yard(0, 1, 9, -1), -14);
        check.due("SIZE", x.yard(0, 1, 0, Integer.MIN_VALUE), -14);
        check.due("fault()", x.fault(), 4);
        check.due("INDEX ahead of the TEXT", x.yard(0, 1, 0, 4), -13);
        check.due("-100 less it", x.yard(0, 1, 0, 3), -100);
        check.due("fault()", x.fault(), 0);
    }
}
