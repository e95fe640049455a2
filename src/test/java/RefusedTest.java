import java.util.ArrayList;
import java.util.List;

/**
 * 'Terms': "A call that answers a fault, or is refused, changes nothing else." Two objects are
 * brought to the same state, one of them is asked what must be refused, and then both must
 * answer the same to whatever follows.
 */
public final class RefusedTest {
    private static final Checks CHECKS = new Checks();
    private static final int LEAST = Integer.MIN_VALUE;
    private static final int MOST = Integer.MAX_VALUE;
    private static final int STATES = 13;

    /** In how many states each call was refused: none of them may be passed over. */
    private static int feeds = 0;
    private static int compiles = 0;
    private static int optimises = 0;
    private static int evals = 0;

    public static void main(String[] args) {
        for (int state = 0; state < STATES; state++) {
            refusedFeed(state);
            refusedSetInput(state);
            faultyCompile(state);
            refusedOptimise(state);
            refusedRun(state);
            faultyEvalDirect(state);
            looks(state);
        }
        CHECKS.due("states with a refused feed", feeds, 7);
        CHECKS.due("states with a faulty compile", compiles, 6);
        CHECKS.due("states with a refused optimise", optimises, 8);
        CHECKS.due("states with a faulty evalDirect", evals, 5);
        CHECKS.finish();
    }

    private static SquareCode brought(int state) {
        SquareCode x = new SquareCode(11, 2);
        for (int m = 0; m < 4; m++) {
            CHECKS.setAll(x, m, new int[][] {{m + 1, 2}, {3, 4 + m}});
        }
        switch (state) {
            case 0: break;
            case 1: CHECKS.feedAll(x, 0, 900); break;
            case 2: workedOutAnd(x, 300); break;
            case 3: workedOutAnd(x, 1); break;
            case 4: feedFull(x, 600); break;
            case 5: feedFull(x, 899); break;
            case 6: CHECKS.feedAll(x, 0, 1, 500); break;
            default: bringCode(x, state); break;
        }
        return x;
    }

    private static void workedOutAnd(SquareCode x, int word) {
        CHECKS.feedAll(x, 2);
        CHECKS.due("evalDirect", x.evalDirect(), 0);
        CHECKS.feedAll(x, word);
    }

    private static void feedFull(SquareCode x, int word) {
        CHECKS.feedAll(x, 3);
        for (int k = 1; k < 24; k++) {
            CHECKS.feedAll(x, word);
        }
    }

    private static void bringCode(SquareCode x, int state) {
        CHECKS.feedAll(x, 0, 1, 500, 1, 200, 300, 300, 803);
        CHECKS.due("compile", x.compile(), 0);
        switch (state) {
            case 7: break;
            case 8: CHECKS.due("run", x.run(4), 8); break;
            case 9: CHECKS.due("run", x.run(9), 0); break;
            case 10: CHECKS.due("optimise", x.optimise(), 0); break;
            case 11:
                CHECKS.due("optimise", x.optimise(), 0);
                CHECKS.due("run", x.run(5), 8);
                break;
            default:
                x.reset();
                CHECKS.feedAll(x, 900);
                break;
        }
    }

    /** Everything that can be seen of an object, now and by using it up. */
    private static List<Integer> told(SquareCode x) {
        List<Integer> answers = new ArrayList<>();
        look(x, answers);
        answers.add(x.run(1));
        look(x, answers);
        answers.add(x.run(40));
        look(x, answers);
        answers.add(x.evalDirect());
        look(x, answers);
        answers.add(x.optimise());
        answers.add(x.run(40));
        look(x, answers);
        answers.add(x.compile());
        answers.add(x.run(40));
        look(x, answers);
        for (int k = 0; k < 25; k++) {
            answers.add(x.feed(300));
        }
        answers.add(x.compile());
        x.reset();
        answers.add(x.compile());
        answers.add(x.feed(0));
        answers.add(x.compile());
        look(x, answers);
        return answers;
    }

    private static void look(SquareCode x, List<Integer> answers) {
        answers.add(x.codeSize());
        answers.add(x.products());
        for (int k = 0; k < 10; k++) {
            answers.add(x.codeAt(k));
        }
        for (int k = 0; k < 4; k++) {
            answers.add(x.out(k / 2, k % 2));
            answers.add(x.outDirect(k / 2, k % 2));
        }
    }

    /** An input is seen where it can still be pushed, or where the code pushes it. */
    private static List<Integer> toldOfInputs(SquareCode x, int m) {
        List<Integer> answers = new ArrayList<>();
        for (int k = 0; k < 25; k++) {
            answers.add(x.feed(k == 0 ? m : 801));
        }
        answers.add(x.evalDirect());
        answers.add(x.compile());
        answers.add(x.run(40));
        look(x, answers);
        return answers;
    }

    private static void sameAsUnasked(String what, int state, SquareCode x) {
        boolean isSame = told(x).equals(told(brought(state)));
        CHECKS.isTrue("state " + state + ": nothing changes by " + what, isSame);
    }

    private static boolean isCompiled(int state) {
        return state >= 7 && state <= 11;
    }

    private static boolean isFull(int state) {
        return state == 4 || state == 5;
    }

    private static int directFault(int state) {
        int[] faults = {5, 3, 4, 5, 0, 0, 0, 0, 0, 0, 0, 0, 3};
        return faults[state];
    }

    private static int compileFault(int state) {
        return state == 5 ? 6 : directFault(state);
    }

    private static void refusedFeed(int state) {
        SquareCode x = brought(state);
        if (!isFull(state) && !isCompiled(state)) {
            return;
        }
        feeds++;
        for (int word : new int[] {0, 300, 600, 900, -1, LEAST, MOST}) {
            CHECKS.due("state " + state + ": feed", x.feed(word), 1);
        }
        sameAsUnasked("feed", state, x);
    }

    private static void refusedSetInput(int state) {
        for (int m = 0; m < 4; m++) {
            SquareCode x = brought(state);
            for (int edge : new int[] {-1, 2, LEAST, MOST}) {
                CHECKS.due("row " + edge, x.setInput(m, edge, 0, 9), 2);
                CHECKS.due("row " + edge, x.setInput(m, edge, 1, 9), 2);
                CHECKS.due("column " + edge, x.setInput(m, 0, edge, 9), 2);
                CHECKS.due("column " + edge, x.setInput(m, 1, edge, 9), 2);
                CHECKS.due("input " + edge, x.setInput(edge == 2 ? 4 : edge, 1, 1, 9), 2);
            }
            boolean isSame = toldOfInputs(x, m).equals(toldOfInputs(brought(state), m));
            CHECKS.isTrue("state " + state + ": input " + m + " is as it was", isSame);
        }
        SquareCode y = brought(state);
        CHECKS.due("setInput", y.setInput(4, 0, 0, 1), 2);
        CHECKS.due("setInput", y.setInput(0, 2, 0, 1), 2);
        CHECKS.due("setInput", y.setInput(0, 0, 2, 1), 2);
        sameAsUnasked("setInput", state, y);
    }

    private static void faultyCompile(int state) {
        if (compileFault(state) == 0) {
            return;
        }
        compiles++;
        SquareCode x = brought(state);
        CHECKS.due("state " + state + ": compile", x.compile(), compileFault(state));
        CHECKS.due("state " + state + ": compile", x.compile(), compileFault(state));
        sameAsUnasked("compile", state, x);
    }

    private static void refusedOptimise(int state) {
        if (isCompiled(state)) {
            return;
        }
        optimises++;
        SquareCode x = brought(state);
        CHECKS.due("state " + state + ": optimise", x.optimise(), 7);
        sameAsUnasked("optimise", state, x);
    }

    /** With code, a run without fuel is not refused, but does nothing either. */
    private static void refusedRun(int state) {
        SquareCode x = brought(state);
        int want = !isCompiled(state) ? 7 : state == 9 ? 0 : 8;
        for (int fuel : new int[] {0, -1, LEAST}) {
            CHECKS.due("state " + state + ": run", x.run(fuel), want);
        }
        if (!isCompiled(state)) {
            CHECKS.due("state " + state + ": run", x.run(1), 7);
            CHECKS.due("state " + state + ": run", x.run(MOST), 7);
        }
        sameAsUnasked("run", state, x);
    }

    private static void faultyEvalDirect(int state) {
        if (directFault(state) == 0) {
            return;
        }
        evals++;
        SquareCode x = brought(state);
        CHECKS.due("state " + state + ": evalDirect", x.evalDirect(), directFault(state));
        sameAsUnasked("evalDirect", state, x);
    }

    /** Looking, also at what is not there, changes nothing. */
    private static void looks(int state) {
        SquareCode x = brought(state);
        for (int edge : new int[] {-1, 2, 40, LEAST, MOST}) {
            CHECKS.due("out", x.out(edge, 0), -1);
            CHECKS.due("out", x.out(0, edge), -1);
            CHECKS.due("outDirect", x.outDirect(edge, 0), -1);
            CHECKS.due("outDirect", x.outDirect(0, edge), -1);
            if (edge != 2) {
                CHECKS.due("codeAt", x.codeAt(edge), -1);
            }
        }
        look(x, new ArrayList<>());
        sameAsUnasked("looking", state, x);
    }
}
