/** Boundary cases of promises 27 to 36 and of section 5 ahead of them. */
public final class SheetEdgesTest {
    private static final Check check = new Check("SheetEdgesTest");
    private static final int[] NO_NUMBERS = {-1, Integer.MIN_VALUE, Integer.MAX_VALUE};

    public static void main(String[] args) {
        sheetUnknown();
        sheetOutside();
        sheetSize();
        sheetOfNone();
        sheetAnew();
        loseUnknown();
        loseNothing();
        putUnknown();
        putNull();
        putIndex();
        cutToBytes();
        cutToShorts();
        intsAsTheyAre();
        cellUnknown();
        cellOutside();
        cellCast();
        cellNull();
        cellIndex();
        copyUnknown();
        copyNull();
        copyCast();
        copyIndex();
        copyOfNone();
        copyAsTheyWere();
        copyOfAll();
        tellUnknown();
        tellBodies();
        visitUnknown();
        visitBodies();
        asUnknown();
        asOutside();
        asCast();
        traceWraps();
        traceStays();
        faultOfTheLatest();
        faultAheadOfAny();
        the512thCall();
        check.end();
    }

    // ---- SHEETS

    private static void sheetUnknown() {
        check.under("Promise 27", "UNKNOWN");
        VoteWalls x = new VoteWalls();
        for (int k = 0; k < 4; k++) {
            check.due("sheet(" + k + ", 0, 1)", x.sheet(k, 0, 1), 1);
        }
        check.due("a fifth one", x.sheet(4, 0, 1), VoteWalls.UNKNOWN);
        for (int k : NO_NUMBERS) {
            check.due("sheet(" + k + ", 0, 1)", x.sheet(k, 0, 1), VoteWalls.UNKNOWN);
            check.due("UNKNOWN ahead of OUTSIDE", x.sheet(k, 3, 61), VoteWalls.UNKNOWN);
            check.due("UNKNOWN ahead of SIZE", x.sheet(k, 0, -1), VoteWalls.UNKNOWN);
        }
    }

    private static void sheetOutside() {
        check.under("Promise 27", "OUTSIDE: lane, n above 60");
        VoteWalls x = new VoteWalls();
        check.due("lane 0", x.sheet(0, 0, 1), 1);
        check.due("lane 2", x.sheet(0, 2, 1), 1);
        check.due("lane 3", x.sheet(0, 3, 1), VoteWalls.OUTSIDE);
        for (int lane : NO_NUMBERS) {
            check.due("lane " + lane, x.sheet(0, lane, 1), VoteWalls.OUTSIDE);
            check.due("OUTSIDE ahead of SIZE: lane " + lane, x.sheet(0, lane, -1), VoteWalls.OUTSIDE);
            check.due("fault()", x.fault(), 0);
        }
        check.due("n 60", x.sheet(0, 0, 60), 1);
        check.due("n 61", x.sheet(0, 0, 61), VoteWalls.OUTSIDE);
        check.due("n far above", x.sheet(0, 0, Integer.MAX_VALUE), VoteWalls.OUTSIDE);
        check.due("the row of 60 is still there", x.put(0, 59, 1), 1);
    }

    private static void sheetSize() {
        check.under("Promise 27", "SIZE");
        VoteWalls x = new VoteWalls();
        check.due("n -1", x.sheet(0, 0, -1), -14);
        check.due("fault()", x.fault(), 4);
        check.due("n far below", x.sheet(0, 2, Integer.MIN_VALUE), -14);
        check.due("it still has nothing", x.lose(0), 0);
        x.sheet(0, 1, 2);
        x.put(0, 1, 7);
        check.due("n -1 again", x.sheet(0, 2, -1), -14);
        check.due("the row stays", x.cell(0, 1, 1), 7);
    }

    private static void sheetOfNone() {
        check.under("section 5", "a row of 0 .. 60 numbers");
        VoteWalls x = new VoteWalls();
        check.due("n 0", x.sheet(0, 1, 0), 1);
        check.due("it has no cells", x.put(0, 0, 1), -13);
        check.due("of its lane: INDEX", x.cell(0, 0, 1), VoteWalls.LOST);
        check.due("fault()", x.fault(), 3);
        check.due("of another lane: CAST", x.cell(0, 0, 2), VoteWalls.LOST);
        check.due("fault()", x.fault(), 2);
        check.due("but it is not nothing", x.lose(0), 1);
    }

    private static void sheetAnew() {
        check.under("section 5", "a row of numbers (0 at first) of a LANE");
        VoteWalls x = new VoteWalls();
        x.sheet(0, 2, 60);
        for (int i = 0; i < 60; i++) {
            check.due("cell " + i + " at first", x.cell(0, i, 2), 0);
            x.put(0, i, i + 1);
        }
        x.sheet(0, 2, 60);
        for (int i = 0; i < 60; i++) {
            check.due("cell " + i + " anew", x.cell(0, i, 2), 0);
        }
        x.put(0, 5, 9);
        x.sheet(0, 1, 3);
        check.due("fewer cells", x.put(0, 3, 1), -13);
        x.sheet(0, 2, 6);
        check.due("what a lost row had is gone", x.cell(0, 5, 2), 0);
        x.put(0, 5, 9);
        x.lose(0);
        x.sheet(0, 2, 6);
        check.due("also behind lose", x.cell(0, 5, 2), 0);
    }

    private static void loseUnknown() {
        check.under("Promise 28", "UNKNOWN");
        VoteWalls x = new VoteWalls();
        check.due("lose(3)", x.lose(3), 0);
        check.due("lose(4)", x.lose(4), VoteWalls.UNKNOWN);
        for (int k : NO_NUMBERS) {
            check.due("lose(" + k + ")", x.lose(k), VoteWalls.UNKNOWN);
        }
    }

    private static void loseNothing() {
        check.under("Promise 28", "1; 0: it had nothing");
        VoteWalls x = new VoteWalls();
        for (int k = 0; k < 4; k++) {
            check.due("nothing at first", x.lose(k), 0);
            x.sheet(k, 0, 1);
            check.due("a row", x.lose(k), 1);
            check.due("nothing again", x.lose(k), 0);
            check.due("it has nothing", x.put(k, 0, 1), -11);
        }
        x.sheet(0, 0, 1);
        x.sheet(1, 0, 1);
        x.lose(0);
        check.due("another one stays", x.put(1, 0, 1), 1);
    }

    private static void putUnknown() {
        check.under("Promise 29", "UNKNOWN");
        VoteWalls x = new VoteWalls();
        x.sheet(3, 0, 1);
        check.due("put(3, 0, 1)", x.put(3, 0, 1), 1);
        check.due("put(4, 0, 1)", x.put(4, 0, 1), VoteWalls.UNKNOWN);
        for (int k : NO_NUMBERS) {
            check.due("put(" + k + ", 0, 1)", x.put(k, 0, 1), VoteWalls.UNKNOWN);
            check.due("UNKNOWN ahead of INDEX", x.put(k, -1, 1), VoteWalls.UNKNOWN);
        }
        check.due("fault()", x.fault(), 0);
    }

    private static void putNull() {
        check.under("Promise 29", "NULL");
        VoteWalls x = new VoteWalls();
        check.due("put(0, 0, 1)", x.put(0, 0, 1), -11);
        check.due("fault()", x.fault(), 1);
        check.due("NULL ahead of INDEX", x.put(0, -1, 1), -11);
        check.due("it still has nothing", x.lose(0), 0);
    }

    private static void putIndex() {
        check.under("Promise 29", "INDEX");
        for (int lane = 0; lane < 3; lane++) {
            VoteWalls x = new VoteWalls();
            x.sheet(0, lane, 3);
            check.due("the first cell", x.put(0, 0, 1), 1);
            check.due("the last cell", x.put(0, 2, 1), 1);
            check.due("behind the last one", x.put(0, 3, 1), -13);
            check.due("fault()", x.fault(), 3);
            for (int i : NO_NUMBERS) {
                check.due("put(0, " + i + ", 1)", x.put(0, i, 1), -13);
            }
            x.sheet(0, lane, 60);
            check.due("the sixtieth cell", x.put(0, 59, 1), 1);
            check.due("a sixty-first one", x.put(0, 60, 1), -13);
        }
    }

    private static void cut(int lane, int given, int due) {
        VoteWalls x = new VoteWalls();
        x.sheet(0, lane, 1);
        check.due("put(0, 0, " + given + ")", x.put(0, 0, given), 1);
        check.due("cell of lane " + lane + " behind " + given, x.cell(0, 0, lane), due);
    }

    private static void cutToBytes() {
        check.under("section 5", "what comes to a cell of it is cut to its LANE: 0 bytes");
        cut(0, 127, 127);
        cut(0, 128, -128);
        cut(0, 255, -1);
        cut(0, 256, 0);
        cut(0, -128, -128);
        cut(0, -129, 127);
        cut(0, Integer.MAX_VALUE, -1);
        cut(0, Integer.MIN_VALUE, 0);
    }

    private static void cutToShorts() {
        check.under("section 5", "what comes to a cell of it is cut to its LANE: 1 shorts");
        cut(1, 32767, 32767);
        cut(1, 32768, -32768);
        cut(1, 65535, -1);
        cut(1, 65536, 0);
        cut(1, -32768, -32768);
        cut(1, -32769, 32767);
        cut(1, 128, 128);
        cut(1, Integer.MAX_VALUE, -1);
        cut(1, Integer.MIN_VALUE, 0);
    }

    private static void intsAsTheyAre() {
        check.under("section 5", "what comes to a cell of it is cut to its LANE: 2 ints");
        cut(2, Integer.MAX_VALUE, Integer.MAX_VALUE);
        cut(2, Integer.MIN_VALUE, Integer.MIN_VALUE);
        cut(2, 65536, 65536);
        cut(2, -1, -1);
    }

    private static void lost(VoteWalls x, String call, long got, int fault) {
        check.due(call, got, VoteWalls.LOST);
        check.due("fault() of " + call, x.fault(), fault);
    }

    private static VoteWalls threeRows() {
        VoteWalls x = new VoteWalls();
        for (int lane = 0; lane < 3; lane++) {
            x.sheet(lane, lane, 3);
        }
        return x;
    }

    private static void cellUnknown() {
        check.under("Promise 30", "LOST: UNKNOWN");
        VoteWalls x = threeRows();
        lost(x, "cell(4, 0, 0)", x.cell(4, 0, 0), 0);
        lost(x, "cell(3, 0, 0)", x.cell(3, 0, 0), 1);
        for (int k : NO_NUMBERS) {
            lost(x, "cell(" + k + ", 0, 0)", x.cell(k, 0, 0), 0);
        }
    }

    private static void cellOutside() {
        check.under("Promise 30", "OUTSIDE: lane");
        VoteWalls x = threeRows();
        x.put(3, 0, 1);
        lost(x, "cell(0, 0, 3)", x.cell(0, 0, 3), 0);
        for (int lane : NO_NUMBERS) {
            lost(x, "cell(0, 0, " + lane + ")", x.cell(0, 0, lane), 0);
            lost(x, "OUTSIDE ahead of NULL, lane " + lane, x.cell(3, 0, lane), 0);
            lost(x, "OUTSIDE ahead of INDEX, lane " + lane, x.cell(0, 9, lane), 0);
        }
    }

    private static void cellCast() {
        check.under("Promise 30", "CAST (nothing is no CAST)");
        VoteWalls x = threeRows();
        for (int k = 0; k < 3; k++) {
            for (int lane = 0; lane < 3; lane++) {
                if (k == lane) {
                    check.due("cell(" + k + ", 0, " + lane + ")", x.cell(k, 0, lane), 0);
                    check.due("fault()", x.fault(), 0);
                } else {
                    lost(x, "cell(" + k + ", 0, " + lane + ")", x.cell(k, 0, lane), 2);
                    lost(x, "CAST ahead of INDEX", x.cell(k, 3, lane), 2);
                }
            }
        }
    }

    private static void cellNull() {
        check.under("Promise 30", "NULL");
        VoteWalls x = threeRows();
        for (int lane = 0; lane < 3; lane++) {
            lost(x, "cell(3, 0, " + lane + ")", x.cell(3, 0, lane), 1);
            lost(x, "NULL ahead of INDEX", x.cell(3, -1, lane), 1);
        }
    }

    private static void cellIndex() {
        check.under("Promise 30", "INDEX");
        VoteWalls x = threeRows();
        for (int lane = 0; lane < 3; lane++) {
            check.due("the last cell", x.cell(lane, 2, lane), 0);
            lost(x, "behind the last one", x.cell(lane, 3, lane), 3);
            for (int i : NO_NUMBERS) {
                lost(x, "cell(" + lane + ", " + i + ", " + lane + ")", x.cell(lane, i, lane), 3);
            }
        }
    }

    // ---- copy

    private static void copyUnknown() {
        check.under("Promise 31", "UNKNOWN");
        VoteWalls x = threeRows();
        check.due("copy(4, 0, 0, 0, 1)", x.copy(4, 0, 0, 0, 1), VoteWalls.UNKNOWN);
        check.due("copy(0, 0, 4, 0, 1)", x.copy(0, 0, 4, 0, 1), VoteWalls.UNKNOWN);
        for (int k : NO_NUMBERS) {
            check.due("from " + k, x.copy(k, 0, 0, 0, 1), VoteWalls.UNKNOWN);
            check.due("to " + k, x.copy(0, 0, k, 0, 1), VoteWalls.UNKNOWN);
            check.due("UNKNOWN ahead of NULL: from " + k, x.copy(k, 0, 3, 0, 1), VoteWalls.UNKNOWN);
            check.due("UNKNOWN ahead of NULL: to " + k, x.copy(3, 0, k, 0, 1), VoteWalls.UNKNOWN);
            check.due("UNKNOWN ahead of INDEX", x.copy(0, 0, k, 0, -1), VoteWalls.UNKNOWN);
        }
        check.due("fault()", x.fault(), 0);
    }

    private static void copyNull() {
        check.under("Promise 31", "NULL (the first, the other)");
        VoteWalls x = threeRows();
        check.due("from nothing", x.copy(3, 0, 0, 0, 1), -11);
        check.due("fault()", x.fault(), 1);
        check.due("to nothing", x.copy(0, 0, 3, 0, 1), -11);
        check.due("from nothing to nothing", x.copy(3, 0, 3, 0, 0), -11);
        check.due("NULL ahead of INDEX", x.copy(0, -1, 3, -1, -1), -11);
    }

    private static void copyCast() {
        check.under("Promise 31", "CAST (unlike LANES)");
        VoteWalls x = threeRows();
        for (int k = 0; k < 3; k++) {
            for (int other = 0; other < 3; other++) {
                check.due("from lane " + k + " to " + other, x.copy(k, 0, other, 0, 3), k == other ? 3 : -12);
                check.due("fault()", x.fault(), k == other ? 0 : 2);
                check.due("none of them", x.copy(k, 0, other, 0, 0), k == other ? 0 : -12);
                check.due("CAST ahead of INDEX", x.copy(k, -1, other, 0, 1), k == other ? -13 : -12);
            }
        }
    }

    private static void copyIndex() {
        check.under("Promise 31", "INDEX: i, j, n below 0 or beyond");
        VoteWalls x = new VoteWalls();
        Check.row(x, 0, 1, 2, 3, 4, 5);
        Check.row(x, 1, 6, 7, 8);
        int max = Integer.MAX_VALUE;
        int min = Integer.MIN_VALUE;
        int[][] wrong = {{-1, 0, 1}, {0, -1, 1}, {0, 0, -1}, {-1, 0, 0}, {0, -1, 0}, {6, 0, 0}, {0, 4, 0}, {5, 0, 1},
            {0, 3, 1}, {0, 0, 4}, {3, 0, 3}, {0, 1, 3}, {max, 0, 0}, {0, max, 0}, {0, 0, max}, {1, 1, max},
            {max, max, max}, {min, 0, 1}, {0, min, 1}, {0, 0, min}, {-1, -1, max}, {min, min, min}};
        for (int[] c : wrong) {
            String call = "copy(0, " + c[0] + ", 1, " + c[1] + ", " + c[2] + ")";
            check.due(call, x.copy(0, c[0], 1, c[1], c[2]), -13);
            check.due("fault() of " + call, x.fault(), 3);
        }
        for (int i = 0; i < 5; i++) {
            check.due("cell(0, " + i + ", 2) as it was", x.cell(0, i, 2), i + 1);
        }
        for (int i = 0; i < 3; i++) {
            check.due("cell(1, " + i + ", 2) as it was", x.cell(1, i, 2), i + 6);
        }
    }

    private static void copyOfNone() {
        check.under("Terms", "INDEX: i is not 0 .. how many there are, if none of them is taken, too");
        VoteWalls x = new VoteWalls();
        Check.row(x, 0, 1, 2);
        x.sheet(1, 2, 0);
        check.due("none, from the end to the end", x.copy(0, 2, 1, 0, 0), 0);
        check.due("fault()", x.fault(), 0);
        check.due("none, from beyond", x.copy(0, 3, 1, 0, 0), -13);
        check.due("none, to beyond", x.copy(0, 2, 1, 1, 0), -13);
        check.due("one, to a row of none", x.copy(0, 0, 1, 0, 1), -13);
        check.due("none of a row of none", x.copy(1, 0, 1, 0, 0), 0);
    }

    private static void rowIs(VoteWalls x, int sheet, int... due) {
        for (int i = 0; i < due.length; i++) {
            check.due("cell(" + sheet + ", " + i + ", 2)", x.cell(sheet, i, 2), due[i]);
        }
    }

    private static void copyAsTheyWere() {
        check.under("Promise 31", "go to another one (perhaps the same) from j on, as they were: n");
        VoteWalls x = new VoteWalls();
        Check.row(x, 0, 1, 2, 3, 4, 5);
        check.due("one to the right", x.copy(0, 0, 0, 1, 4), 4);
        rowIs(x, 0, 1, 1, 2, 3, 4);
        Check.row(x, 0, 1, 2, 3, 4, 5);
        check.due("one to the left", x.copy(0, 1, 0, 0, 4), 4);
        rowIs(x, 0, 2, 3, 4, 5, 5);
        Check.row(x, 0, 1, 2, 3, 4, 5);
        check.due("onto itself", x.copy(0, 0, 0, 0, 5), 5);
        rowIs(x, 0, 1, 2, 3, 4, 5);
        check.due("the ends", x.copy(0, 0, 0, 4, 1), 1);
        rowIs(x, 0, 1, 2, 3, 4, 1);
    }

    private static void copyOfAll() {
        check.under("Promise 31", "n cells of a SHEET from i on go to another one from j on");
        VoteWalls x = new VoteWalls();
        x.sheet(0, 0, 60);
        x.sheet(3, 0, 60);
        for (int i = 0; i < 60; i++) {
            x.put(0, i, 100 + i);
        }
        check.due("all sixty", x.copy(0, 0, 3, 0, 60), 60);
        for (int i = 0; i < 60; i++) {
            check.due("cell(3, " + i + ", 0)", x.cell(3, i, 0), (byte) (100 + i));
        }
        x.put(0, 0, 1);
        check.due("a row of its own", x.cell(3, 0, 0), 100);
        check.due("61 of them", x.copy(0, 0, 3, 0, 61), -13);
    }

    // ---- TELLING, VISITED

    private static int left(int... numbers) {
        int trace = 0;
        for (int number : numbers) {
            trace = 31 * trace + number;
        }
        return trace;
    }

    private static void tellUnknown() {
        check.under("Promise 32", "UNKNOWN");
        VoteWalls x = Check.yardOf("v10;05,p00,p01,p02,p03,p04,p05,p06,p07");
        check.due("tell(8)", x.tell(8), VoteWalls.UNKNOWN);
        for (int p : NO_NUMBERS) {
            check.due("tell(" + p + ")", x.tell(p), VoteWalls.UNKNOWN);
        }
        check.due("behind the last one", Check.yardOf("v10;05,p02").tell(1), VoteWalls.UNKNOWN);
        check.due("trace()", x.trace(), 0);
        check.due("the eighth one", x.tell(7), 7);
        check.due("trace()", x.trace(), 1);
    }

    private static void tellBodies() {
        check.under("section 5", "bodies that leave their number in TRACE as they begin");
        String[] texts = {"v30;05,p00", "v30;05,p29", "v30;05,t00", "v30;05,t29", "v30;05,b00", "v30;05,b29"};
        int[] due = {0, 29, 100, 129, 100, 158};
        int[] trace = {left(1), left(1), left(2, 1), left(2, 1), left(3, 2, 1, 1), left(3, 2, 1, 1)};
        for (int k = 0; k < texts.length; k++) {
            VoteWalls x = Check.yardOf(texts[k]);
            check.due("tell(0) of " + texts[k], x.tell(0), due[k]);
            check.due("trace() of " + texts[k], x.trace(), trace[k]);
        }
    }

    private static void visitUnknown() {
        check.under("Promise 33", "UNKNOWN");
        VoteWalls x = Check.yardOf("v10;05,p00,p01,p02,p03,p04,p05,p06,p07");
        check.due("visit(8)", x.visit(8), VoteWalls.UNKNOWN);
        for (int p : NO_NUMBERS) {
            check.due("visit(" + p + ")", x.visit(p), VoteWalls.UNKNOWN);
        }
        check.due("behind the last one", Check.yardOf("v10;05,p02").visit(1), VoteWalls.UNKNOWN);
        check.due("trace()", x.trace(), 0);
        check.due("the eighth one", x.visit(7), 7);
        check.due("trace()", x.trace(), 4);
    }

    private static void visitBodies() {
        check.under("section 5", "VISITED by a lent body (4): his number; BULLIES have their own (5): 90");
        VoteWalls x = Check.yardOf("v10;05,p09,t09,b09,p09");
        int[] due = {0, 1, 90, 3};
        int[] body = {4, 4, 5, 4};
        int trace = 0;
        for (int p = 0; p < 4; p++) {
            check.due("visit(" + p + ")", x.visit(p), due[p]);
            trace = 31 * trace + body[p];
            check.due("trace()", x.trace(), trace);
        }
    }

    // ---- as, TRACE, FAULTS

    private static void asUnknown() {
        check.under("Promise 34", "UNKNOWN");
        VoteWalls x = Check.yardOf("v10;05,p00,p01,p02,p03,p04,p05,p06,b07");
        check.due("the eighth one", x.as(7, 2), 1);
        check.due("as(8, 0)", x.as(8, 0), VoteWalls.UNKNOWN);
        for (int p : NO_NUMBERS) {
            check.due("as(" + p + ", 0)", x.as(p, 0), VoteWalls.UNKNOWN);
            check.due("UNKNOWN ahead of OUTSIDE", x.as(p, 3), VoteWalls.UNKNOWN);
        }
        check.due("behind the last one", Check.yardOf("v10;05,p02").as(1, 0), VoteWalls.UNKNOWN);
    }

    private static void asOutside() {
        check.under("Promise 34", "OUTSIDE");
        VoteWalls x = Check.yardOf("v10;05,p00");
        check.due("as(0, 2)", x.as(0, 2), -12);
        check.due("OUTSIDE ahead of CAST: as(0, 3)", x.as(0, 3), VoteWalls.OUTSIDE);
        check.due("fault()", x.fault(), 0);
        for (int kind : NO_NUMBERS) {
            check.due("as(0, " + kind + ")", x.as(0, kind), VoteWalls.OUTSIDE);
        }
    }

    private static void asCast() {
        check.under("Promise 34", "CAST: he is none (each is a PRISONER, too; a BULLY is TALL)");
        VoteWalls x = Check.yardOf("v10;05,p00,t00,b00");
        int[][] due = {{1, -12, -12}, {1, 1, -12}, {1, 1, 1}};
        for (int p = 0; p < 3; p++) {
            for (int kind = 0; kind < 3; kind++) {
                check.due("as(" + p + ", " + kind + ")", x.as(p, kind), due[p][kind]);
                check.due("fault()", x.fault(), due[p][kind] == 1 ? 0 : 2);
            }
        }
        check.due("he stays what he is", x.ofPrisoner(0, 0), 0);
        check.due("and leaves no number", x.trace(), 0);
    }

    private static void traceWraps() {
        check.under("section 5", "TRACE (an int that wraps, 0 at first, becomes 31 times it and the number)");
        VoteWalls x = Check.yardOf("v10;05,b09");
        check.due("at first", x.trace(), 0);
        long exact = 0;
        int wrapped = 0;
        for (int k = 0; k < 20; k++) {
            x.visit(0);
            exact = k < 7 ? 31 * exact + 5 : exact;
            wrapped = 31 * wrapped + 5;
            check.due("trace() behind " + (k + 1), x.trace(), wrapped);
        }
        check.isTrue("it has wrapped by the seventh one", exact > Integer.MAX_VALUE);
        check.due("5 seven times", left(5, 5, 5, 5, 5, 5, 5), (int) exact);
        Check.give(x, "v10;05,p02");
        check.due("a new yard leaves it", x.trace(), wrapped);
    }

    private static void traceStays() {
        check.under("Promise 35", "TRACE");
        VoteWalls x = new VoteWalls();
        check.due("without a yard", x.trace(), 0);
        Check.give(x, "v10;05,p02,b07");
        x.visit(0);
        check.due("trace()", x.trace(), 4);
        check.due("trace() twice", x.trace(), 4);
        x.as(1, 1);
        x.ofPrisoner(1, 2);
        x.game(0);
        x.odds(0, 1, 49, 0);
        x.tell(2);
        x.visit(-1);
        check.due("no other call leaves a number", x.trace(), 4);
    }

    private static void faultOfTheLatest() {
        check.under("Promise 36", "The FAULT of the latest call that names one: 0: it came to none, or was refused");
        VoteWalls x = Check.yardOf("v10;05,p02");
        check.due("NULL", x.put(0, 0, 1), -11);
        check.due("fault()", x.fault(), 1);
        check.due("fault() twice", x.fault(), 1);
        check.due("CAST", x.as(0, 1), -12);
        check.due("fault()", x.fault(), 2);
        check.due("INDEX", x.put(3, -1, 1), -13);
        check.due("fault()", x.fault(), 3);
        check.due("SIZE", x.sheet(0, 0, -1), -14);
        check.due("fault()", x.fault(), 4);
        check.due("it came to none", x.as(0, 0), 1);
        check.due("fault()", x.fault(), 0);
        x.put(0, 0, 1);
        check.due("refused", x.as(1, 0), VoteWalls.UNKNOWN);
        check.due("fault()", x.fault(), 0);
    }

    private static void faultAheadOfAny() {
        check.under("Promise 36", "(0 ahead of any)");
        VoteWalls x = new VoteWalls();
        check.due("fault()", x.fault(), 0);
        x.lose(9);
        x.tell(0);
        x.gap(0, 0);
        check.due("calls that name none", x.fault(), 0);
    }

    private static void the512thCall() {
        check.under("What it is", "An object is used for at most 512 calls after it has been made");
        VoteWalls x = new VoteWalls();
        // 1 for the row, 10 cells, 1 for the yard
        Check.giveCodes(x, 2, 'v', '1', '0', ';', '0', '5', ',', 't', '0', '2');
        int trace = 0;
        for (int k = 12; k < 510; k++) {
            x.tell(0);
            trace = 31 * (31 * trace + 2) + 1;
        }
        check.due("the 511th one", x.gap(0, 49), 9);
        check.due("the 512th one", x.trace(), trace);
    }
}
