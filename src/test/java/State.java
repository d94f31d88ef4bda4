/** All that calls tell of an object but its fault, to see that a refused call changes nothing. */
final class State {
    private static final int[] SUNDAYS = {-1, 0, 1, 2, 9, 49};
    private static final int[] CELLS = {0, 4, 5, 9, 59};

    private State() {
    }

    /** Some 200 calls at most, so that an object can be looked at twice within its 512. */
    static String of(VoteWalls x) {
        StringBuilder told = new StringBuilder();
        tell(told, x.trace());
        for (int what = 0; what <= 6; what++) {
            tell(told, x.many(what));
        }
        for (int p = 0; p < x.many(0); p++) {
            for (int what = 0; what <= 2; what++) {
                tell(told, x.ofPrisoner(p, what));
            }
        }
        for (int b = 0; b < x.many(1); b++) {
            for (int sunday : SUNDAYS) {
                tell(told, x.gap(b, sunday));
            }
        }
        tell(told, x.struck());
        tell(told, x.laws());
        for (int k = 0; k < 4; k++) {
            for (int lane = 0; lane < 3; lane++) {
                for (int i : CELLS) {
                    tell(told, x.cell(k, i, lane));
                    tell(told, x.fault());
                }
            }
        }
        return told.toString();
    }

    private static void tell(StringBuilder told, long answer) {
        told.append(answer).append(' ');
    }
}
