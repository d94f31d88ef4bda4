/** Promises 27 to 36. */
public final class SheetsTest {
    private static final Check check = new Check("SheetsTest");

    public static void main(String[] args) {
        sheets();
        putsAndCells();
        copies();
        tellings();
        visits();
        kinds();
        faults();
        check.end();
    }

    private static void sheets() {
        VoteWalls x = new VoteWalls();
        check.due("sheet(4, 9, 99)", x.sheet(4, 9, 99), VoteWalls.UNKNOWN);
        check.due("sheet(-1, 0, 0)", x.sheet(-1, 0, 0), VoteWalls.UNKNOWN);
        check.due("sheet(0, 3, -1)", x.sheet(0, 3, -1), VoteWalls.OUTSIDE);
        check.due("sheet(0, -1, 5)", x.sheet(0, -1, 5), VoteWalls.OUTSIDE);
        check.due("sheet(0, 0, 61)", x.sheet(0, 0, 61), VoteWalls.OUTSIDE);
        check.due("sheet(0, 0, -1)", x.sheet(0, 0, -1), -14);
        check.due("fault()", x.fault(), 4);
        check.due("still nothing", x.lose(0), 0);
        check.due("sheet(0, 0, 0)", x.sheet(0, 0, 0), 1);
        check.due("no cells", x.put(0, 0, 1), -13);
        check.due("a row of none is not nothing", x.lose(0), 1);
        check.due("lost twice", x.lose(0), 0);
        check.due("sheet(3, 2, 60)", x.sheet(3, 2, 60), 1);
        check.due("last cell", x.put(3, 59, 7), 1);
        check.due("sheet(3, 2, 60) anew", x.sheet(3, 2, 60), 1);
        check.due("0 at first", x.cell(3, 59, 2), 0);
        x.put(3, 59, 7);
        check.due("a bad size changes nothing", x.sheet(3, 0, -1), -14);
        check.due("as it was", x.cell(3, 59, 2), 7);
        check.due("lose(4)", x.lose(4), VoteWalls.UNKNOWN);
        check.due("lose(-1)", x.lose(-1), VoteWalls.UNKNOWN);
        x.lose(3);
        check.due("nothing left", x.put(3, 0, 1), -11);
    }

    private static void putsAndCells() {
        VoteWalls x = new VoteWalls();
        for (int lane = 0; lane < 3; lane++) {
            x.sheet(lane, lane, 2);
            check.due("put in lane " + lane, x.put(lane, 1, 0x1234F6F7), 1);
        }
        check.due("a byte", x.cell(0, 1, 0), (byte) 0xF7);
        check.due("a short", x.cell(1, 1, 1), (short) 0xF6F7);
        check.due("an int", x.cell(2, 1, 2), 0x1234F6F7);
        x.put(2, 0, Integer.MIN_VALUE);
        check.due("the least int", x.cell(2, 0, 2), Integer.MIN_VALUE);
        check.due("put(4, 0, 0)", x.put(4, 0, 0), VoteWalls.UNKNOWN);
        check.due("put of nothing", x.put(3, -1, 0), -11);
        check.due("put(0, 2, 0)", x.put(0, 2, 0), -13);
        check.due("put(0, -1, 0)", x.put(0, -1, 0), -13);
        lost(x, "cell(4, 0, 9)", x.cell(4, 0, 9), 0);
        lost(x, "cell(-1, 0, 0)", x.cell(-1, 0, 0), 0);
        lost(x, "cell(3, 0, 3)", x.cell(3, 0, 3), 0);
        lost(x, "cell(3, 9, 0)", x.cell(3, 9, 0), 1);
        lost(x, "cell(0, 9, 1)", x.cell(0, 9, 1), 2);
        lost(x, "cell(0, 2, 0)", x.cell(0, 2, 0), 3);
        lost(x, "cell(0, -1, 0)", x.cell(0, -1, 0), 3);
        lost(x, "cell(0, 0, -1)", x.cell(0, 0, -1), 0);
    }

    private static void lost(VoteWalls x, String call, long got, int fault) {
        check.due(call, got, VoteWalls.LOST);
        check.due("fault() of " + call, x.fault(), fault);
    }

    private static void copies() {
        VoteWalls x = new VoteWalls();
        Check.row(x, 0, 1, 2, 3, 4, 5);
        Check.row(x, 1, 9, 9, 9);
        check.due("copy(0, 1, 1, 0, 2)", x.copy(0, 1, 1, 0, 2), 2);
        rowIs(x, 1, 2, 3, 9);
        check.due("to the right in itself", x.copy(0, 0, 0, 1, 4), 4);
        rowIs(x, 0, 1, 1, 2, 3, 4);
        check.due("to the left in itself", x.copy(0, 2, 0, 1, 3), 3);
        rowIs(x, 0, 1, 2, 3, 4, 4);
        check.due("none from the end", x.copy(0, 5, 1, 3, 0), 0);
        check.due("none from beyond", x.copy(0, 6, 1, 3, 0), -13);
        check.due("none to beyond", x.copy(0, 5, 1, 4, 0), -13);
        check.due("i below 0", x.copy(0, -1, 1, 0, 1), -13);
        check.due("j below 0", x.copy(0, 0, 1, -1, 1), -13);
        check.due("n below 0", x.copy(0, 0, 1, 0, -1), -13);
        check.due("beyond the first", x.copy(0, 3, 0, 0, 3), -13);
        check.due("beyond the other", x.copy(0, 0, 1, 1, 3), -13);
        check.due("great numbers", x.copy(0, 1, 1, 1, Integer.MAX_VALUE), -13);
        rowIs(x, 1, 2, 3, 9);
        x.sheet(2, 1, 3);
        check.due("unlike lanes", x.copy(0, 9, 2, 0, 1), -12);
        check.due("fault()", x.fault(), 2);
        check.due("from nothing", x.copy(3, 0, 2, 0, 1), -11);
        check.due("to nothing", x.copy(2, 9, 3, 0, 1), -11);
        check.due("copy(4, ..)", x.copy(4, 0, 3, 0, 1), VoteWalls.UNKNOWN);
        check.due("copy(.., 4, ..)", x.copy(3, 0, 4, 0, 1), VoteWalls.UNKNOWN);
        check.due("fault() of a refusal", x.fault(), 0);
    }

    private static void rowIs(VoteWalls x, int sheet, int... due) {
        for (int k = 0; k < due.length; k++) {
            check.due("cell " + k + " of sheet " + sheet, x.cell(sheet, k, 2), due[k]);
        }
    }

    private static int left(int... numbers) {
        int trace = 0;
        for (int number : numbers) {
            trace = 31 * trace + number;
        }
        return trace;
    }

    private static void tellings() {
        VoteWalls x = Check.yardOf("v12;07,p05,t11,b03");
        check.due("tell(0)", x.tell(0), 5);
        check.due("trace()", x.trace(), left(1));
        check.due("tell(1)", x.tell(1), 111);
        check.due("trace()", x.trace(), left(1, 2, 1));
        check.due("tell(2)", x.tell(2), 106);
        check.due("trace()", x.trace(), left(1, 2, 1, 3, 2, 1, 1));
        check.due("tell(3)", x.tell(3), VoteWalls.UNKNOWN);
        check.due("tell(-1)", x.tell(-1), VoteWalls.UNKNOWN);
        check.due("trace() as it was", x.trace(), left(1, 2, 1, 3, 2, 1, 1));
        x.tell(2);
        check.due("trace() wraps", x.trace(), left(1, 2, 1, 3, 2, 1, 1, 3, 2, 1, 1));
    }

    private static void visits() {
        VoteWalls x = Check.yardOf("v12;07,p05,t11,b03");
        check.due("visit(0)", x.visit(0), 0);
        check.due("visit(1)", x.visit(1), 1);
        check.due("trace()", x.trace(), left(4, 4));
        check.due("visit(2)", x.visit(2), 90);
        check.due("trace()", x.trace(), left(4, 4, 5));
        check.due("visit(3)", x.visit(3), VoteWalls.UNKNOWN);
        check.due("visit(-1)", x.visit(-1), VoteWalls.UNKNOWN);
        check.due("trace() as it was", x.trace(), left(4, 4, 5));
    }

    private static void kinds() {
        VoteWalls x = Check.yardOf("v12;07,p05,t11,b03");
        for (int p = 0; p < 3; p++) {
            for (int kind = 0; kind < 3; kind++) {
                check.due("as(" + p + ", " + kind + ")", x.as(p, kind), kind <= p ? 1 : -12);
                check.due("fault()", x.fault(), kind <= p ? 0 : 2);
            }
        }
        check.due("as(3, 3)", x.as(3, 3), VoteWalls.UNKNOWN);
        check.due("as(-1, 0)", x.as(-1, 0), VoteWalls.UNKNOWN);
        check.due("as(0, 3)", x.as(0, 3), VoteWalls.OUTSIDE);
        check.due("as(0, -1)", x.as(0, -1), VoteWalls.OUTSIDE);
        check.due("trace()", x.trace(), 0);
    }

    /** A fault stays till the next call that names one, whatever other calls come between. */
    private static void faults() {
        VoteWalls x = Check.yardOf("v12;07,p05,t11,b03");
        String[] calls = {"yard", "walk", "sheet", "put", "cell", "copy", "as"};
        for (int call = 0; call < calls.length; call++) {
            check.due("as(0, 2)", x.as(0, 2), -12);
            x.lose(0);
            x.gap(0, 99);
            x.tell(0);
            x.visit(0);
            x.odds(0, 1, 99, 0);
            x.lock(9, 0, 0);
            x.unlock(0);
            x.many(9);
            check.due("fault() stays", x.fault(), 2);
            refused(x, call);
            check.due("fault() behind refused " + calls[call], x.fault(), 0);
        }
        check.due("put(3, 0, 1)", x.put(3, 0, 1), 1);
        check.due("fault() behind a good call", x.fault(), 0);
        x.put(0, 0, 1);
        check.due("fault() NULL", x.fault(), 1);
        x.sheet(0, 2, 1);
        check.due("fault() behind a good sheet", x.fault(), 0);
    }

    private static void refused(VoteWalls x, int call) {
        switch (call) {
            case 0: x.yard(9, 0, 0, 0); break;
            case 1: x.walk(9, 0, 0, 0); break;
            case 2: x.sheet(0, 0, 61); break;
            case 3: x.put(9, 0, 0); break;
            case 4: x.cell(9, 0, 0); break;
            case 5: x.copy(0, 0, 9, 0, 0); break;
            default: x.as(0, 9); break;
        }
    }
}
