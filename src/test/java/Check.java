/** What all tests share: rows of a call with the answer that is due, and yards by texts. */
final class Check {
    private final String name;
    private String sentence = "";
    private int rows = 0;
    private int wrong = 0;

    Check(String name) {
        this.name = name;
    }

    /** The words of the document that the rows from here on are about. */
    void under(String where, String words) {
        sentence = " [" + where + ": " + words + "]";
    }

    void due(String call, long got, long want) {
        rows++;
        if (got != want) {
            wrong++;
            System.out.println(name + sentence + ": " + call + " answered " + got + ", due is " + want);
        }
    }

    void isTrue(String what, boolean holds) {
        rows++;
        if (!holds) {
            wrong++;
            System.out.println(name + sentence + ": not so: " + what);
        }
    }

    void end() {
        System.out.println(name + ": " + rows + " answers, " + wrong + " not as due");
        if (wrong != 0 || rows == 0) {
            System.exit(1);
        }
    }

    /** The text goes to sheet 3 as ints, behind two other cells, and is taken from there. */
    static int give(VoteWalls x, String text) {
        int n = text.length();
        x.sheet(3, 2, n + 3);
        for (int k = 0; k < n; k++) {
            x.put(3, k + 2, text.charAt(k));
        }
        return x.yard(3, 2, 2, n);
    }

    /** The codes go to sheet 0, to a row of that lane which has no other cells, and are taken from there. */
    static int giveCodes(VoteWalls x, int lane, int... codes) {
        x.sheet(0, lane, codes.length);
        for (int k = 0; k < codes.length; k++) {
            x.put(0, k, codes[k]);
        }
        return x.yard(0, lane, 0, codes.length);
    }

    static VoteWalls yardOf(String text) {
        VoteWalls x = new VoteWalls();
        int taken = give(x, text);
        if (taken < 0) {
            throw new IllegalStateException(text + " is not taken: " + taken);
        }
        return x;
    }

    /** Puts numbers into a new row of ints. */
    static void row(VoteWalls x, int sheet, int... numbers) {
        x.sheet(sheet, 2, numbers.length);
        for (int k = 0; k < numbers.length; k++) {
            x.put(sheet, k, numbers[k]);
        }
    }
}
