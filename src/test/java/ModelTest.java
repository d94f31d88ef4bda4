import java.lang.reflect.Method;
import java.util.ArrayList;
import java.util.Comparator;
import java.util.List;

/** Long runs of calls, made by a fixed row of numbers, on VoteWalls and on the plain Model. */
public final class ModelTest {
    private static final int RUNS = 400, CALLS = 500;
    private static final Check check = new Check("ModelTest");
    private static final int[] WILD = {Integer.MIN_VALUE, Integer.MAX_VALUE, -2, -1, 0, 1, 4, 5, 8, 49, 50, 60, 61};

    private final VoteWalls x = new VoteWalls();
    private final Model m = new Model();
    private final List<Method> ours;
    private final List<Method> theirs = new ArrayList<>();
    private final StringBuilder told = new StringBuilder();
    private final int run;
    private long seed;
    private int calls = 0;

    private ModelTest(int run, List<Method> ours) throws Exception {
        this.run = run;
        this.ours = ours;
        this.seed = run * 7919L + 17;
        for (Method method : ours) {
            theirs.add(Model.class.getDeclaredMethod(method.getName(), method.getParameterTypes()));
        }
    }

    public static void main(String[] args) throws Exception {
        List<Method> ours = new ArrayList<>();
        for (Method method : VoteWalls.class.getDeclaredMethods()) {
            if (java.lang.reflect.Modifier.isPublic(method.getModifiers())) {
                ours.add(method);
            }
        }
        ours.sort(Comparator.comparing(Method::getName));
        for (int run = 0; run < RUNS; run++) {
            new ModelTest(run, ours).go();
        }
        check.end();
    }

    private int below(int n) {
        seed = seed * 6364136223846793005L + 1442695040888963407L;
        return (int) ((seed >>> 33) % n);
    }

    private void go() throws Exception {
        while (calls < CALLS) {
            if (below(60) == 0 && calls < CALLS - 120 || calls == 0 && run % 8 != 0) {
                giveText(run % 2 == 0 && below(3) == 0);
            } else {
                callAny();
            }
        }
    }

    private void both(String name, int... args) throws Exception {
        for (int k = 0; k < ours.size(); k++) {
            if (ours.get(k).getName().equals(name)) {
                both(k, args);
            }
        }
    }

    private void both(int k, int... args) throws Exception {
        Object[] boxed = new Object[args.length];
        StringBuilder call = new StringBuilder(ours.get(k).getName());
        for (int j = 0; j < args.length; j++) {
            boxed[j] = args[j];
            call.append(j == 0 ? "(" : ", ").append(args[j]);
        }
        long got = ((Number) ours.get(k).invoke(x, boxed)).longValue();
        long want = ((Number) theirs.get(k).invoke(m, boxed)).longValue();
        check.due("run " + run + " call " + calls + " after " + told + ": " + call, got, want);
        calls++;
    }

    private void giveText(boolean spoilt) throws Exception {
        StringBuilder text = new StringBuilder("v");
        int inches = 4 + below(27);
        text.append(String.format("%02d", inches));
        int boards = 1 + below(Math.min(5, inches - 1));
        int at = 0;
        for (int b = 0; b < boards; b++) {
            int left = inches - 1 - at - (boards - 1 - b);
            at += 1 + below(Math.max(1, Math.min(left, 2 * inches / (boards + 1))));
            text.append(String.format(";%02d", at));
        }
        int prisoners = 1 + below(8);
        for (int p = 0; p < prisoners; p++) {
            text.append(',').append("ptb".charAt(below(3))).append(String.format("%02d", below(inches)));
        }
        if (spoilt) {
            spoil(text);
        }
        int lane = below(3);
        int from = below(4);
        both("sheet", 0, lane, text.length() + from);
        for (int k = 0; k < text.length(); k++) {
            both("put", 0, from + k, text.charAt(k));
        }
        both("yard", 0, lane, from, text.length());
        told.append(text).append(' ');
        both("many", 0);
    }

    private void spoil(StringBuilder text) {
        int k = below(text.length());
        switch (below(4)) {
            case 0: text.setLength(k); break;
            case 1: text.setCharAt(k, "v0123456789;,ptbx".charAt(below(17))); break;
            case 2: text.deleteCharAt(k); break;
            default: text.insert(k, "v0123456789;,ptbx".charAt(below(17))); break;
        }
    }

    private void callAny() throws Exception {
        int k = below(ours.size());
        String name = ours.get(k).getName();
        boolean dear = name.equals("odds") || name.equals("pushed");
        if (dear && below(4) != 0 || name.equals("yard") && below(4) != 0) {
            return;
        }
        int[] args = new int[ours.get(k).getParameterCount()];
        for (int j = 0; j < args.length; j++) {
            args[j] = below(40) == 0 ? WILD[below(WILD.length)] : likely(name, j);
        }
        both(k, args);
    }

    /** Numbers that a call mostly takes, with the edges on both sides now and then. */
    private int likely(String name, int j) {
        switch (name + j) {
            case "gap1": case "cellOf1": case "wide1": case "with1": case "pushed2": case "knocks1":
            case "odds2": case "reading1":
                return below(3) == 0 ? below(52) - 1 : below(12) - 1;
            case "lock1": case "strike1":
                return below(20);
            case "lock2": case "strike2":
                return below(3) == 0 ? 49 : below(52);
            case "unlock0": case "eat0": case "back0":
                return below(3);
            case "lock0": case "gap0": case "pushed0": case "reading0":
                return below(Math.max(1, m.many(1)) + below(2));
            case "reading2":
                return below(3) == 0 || m.many(1) == 0 ? below(31) : Math.max(0, m.gap(below(m.many(1)), below(10)));
            case "pushed1":
                return below(Math.max(1, m.many(2)) + 1);
            case "yard3": case "walk3": case "copy4": case "sheet2":
                return below(12);
            case "yard1": case "walk1": case "cell2": case "sheet1":
                return below(5) == 0 ? below(5) - 1 : 2;
            case "put2":
                return below(3) == 0 ? (int) seed : below(6);
            default:
                return below(5) == 0 ? below(10) - 1 : below(4);
        }
    }
}
