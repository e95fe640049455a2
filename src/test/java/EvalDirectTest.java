/** Promises 7 and 9: evalDirect and outDirect. */
public final class EvalDirectTest {
    private static final Checks CHECKS = new Checks();
    private static final int[][] A = {{1, 2, 0}, {3, 4, 1}, {0, 5, 6}};
    private static final int[][] B = {{2, 0, 1}, {1, 1, 0}, {0, 3, 2}};

    public static void main(String[] args) {
        everyOperation();
        deepSource();
        withAndWithoutCode();
        withoutCodeThereIsNoLimitOfIt();
        noneWorkedOut();
        theLastThatAnsweredNought();
        eachFaultKeepsTheLast();
        outDirectIfNoSuchPlace();
        CHECKS.finish();
    }

    private static void makes(String what, int[] words, int[][] want) {
        SquareCode x = new SquareCode(11, 3);
        CHECKS.setAll(x, 0, A);
        CHECKS.setAll(x, 3, B);
        CHECKS.feedAll(x, words);
        CHECKS.due(what + ": evalDirect", x.evalDirect(), 0);
        CHECKS.outDirectIs(what, x, want);
    }

    private static void everyOperation() {
        makes("PUSH", new int[] {3}, B);
        makes("ONE", new int[] {100}, new int[][] {{1, 0, 0}, {0, 1, 0}, {0, 0, 1}});
        makes("NOUGHT", new int[] {200}, new int[3][3]);
        makes("ADD", new int[] {0, 3, 300}, new int[][] {{3, 2, 1}, {4, 5, 1}, {0, 8, 8}});
        makes("SUB", new int[] {0, 3, 400}, new int[][] {{10, 2, 10}, {2, 3, 1}, {0, 2, 4}});
        makes("MUL", new int[] {0, 3, 500}, new int[][] {{4, 2, 1}, {10, 7, 5}, {5, 1, 1}});
        makes("TURN", new int[] {0, 600}, new int[][] {{1, 3, 0}, {2, 4, 5}, {0, 1, 6}});
        makes("SCALE", new int[] {0, 712}, A);
        makes("SCALE", new int[] {0, 702}, new int[][] {{2, 4, 0}, {6, 8, 2}, {0, 10, 1}});
        makes("POWER 0", new int[] {0, 800}, new int[][] {{1, 0, 0}, {0, 1, 0}, {0, 0, 1}});
        makes("POWER 1", new int[] {0, 801}, A);
        makes("POWER 2", new int[] {0, 802}, new int[][] {{7, 10, 2}, {4, 5, 10}, {4, 6, 8}});
        makes("POWER 3", new int[] {0, 803}, new int[][] {{4, 9, 0}, {8, 1, 10}, {0, 6, 10}});
    }

    /** Twelve matrices at once are the most that a source without fault can have. */
    private static void deepSource() {
        SquareCode x = new SquareCode(97, 4);
        for (int k = 0; k < 12; k++) {
            CHECKS.feedAll(x, 100);
        }
        for (int k = 0; k < 11; k++) {
            CHECKS.feedAll(x, 400);
        }
        CHECKS.feedAll(x, 705);
        CHECKS.due("evalDirect", x.evalDirect(), 0);
        CHECKS.due("1 - (1 - (..))", x.outDirect(3, 3), 0);
        CHECKS.due("compile", x.compile(), 0);
        CHECKS.due("run", x.run(24), 0);
        CHECKS.due("1 - (1 - (..))", x.out(3, 3), 0);
    }

    private static void withAndWithoutCode() {
        SquareCode x = new SquareCode(7, 1);
        CHECKS.due("setInput", x.setInput(0, 0, 0, 3), 0);
        CHECKS.feedAll(x, 0, 100, 300);
        CHECKS.due("evalDirect", x.evalDirect(), 0);
        CHECKS.due("outDirect", x.outDirect(0, 0), 4);
        CHECKS.due("no code comes of it", x.codeSize(), -1);
        CHECKS.due("compile", x.compile(), 0);
        CHECKS.due("run", x.run(2), 8);
        CHECKS.due("evalDirect between", x.evalDirect(), 0);
        CHECKS.due("it does not run", x.out(0, 0), -1);
        CHECKS.due("it does not rewind", x.run(1), 0);
        CHECKS.due("out", x.out(0, 0), 4);
        CHECKS.due("evalDirect after", x.evalDirect(), 0);
        CHECKS.due("out stays", x.out(0, 0), 4);
        CHECKS.due("setInput", x.setInput(0, 0, 0, 5), 0);
        CHECKS.due("run", x.run(3), 0);
        CHECKS.due("out is new", x.out(0, 0), 6);
        CHECKS.due("outDirect is old", x.outDirect(0, 0), 4);
    }

    /** "without code: 0, or the fault 3, 4 or 5", never 6 */
    private static void withoutCodeThereIsNoLimitOfIt() {
        SquareCode x = new SquareCode(97, 1);
        CHECKS.due("setInput", x.setInput(0, 0, 0, 5), 0);
        CHECKS.feedAll(x, 0, 899, 899, 899, 899, 899);
        CHECKS.due("compile", x.compile(), 6);
        CHECKS.due("evalDirect", x.evalDirect(), 0);
        CHECKS.due("5 to the 99 to the 5, which is 5 to the 51", x.outDirect(0, 0), 69);
    }

    /** "-1 if there was none since the constructor or reset" */
    private static void noneWorkedOut() {
        SquareCode x = new SquareCode(7, 1);
        CHECKS.due("none since the constructor", x.outDirect(0, 0), -1);
        CHECKS.due("evalDirect", x.evalDirect(), 5);
        CHECKS.due("none that answered 0", x.outDirect(0, 0), -1);
        CHECKS.feedAll(x, 100);
        CHECKS.due("compile", x.compile(), 0);
        CHECKS.due("run", x.run(1), 0);
        CHECKS.due("run is not evalDirect", x.outDirect(0, 0), -1);
        CHECKS.due("evalDirect", x.evalDirect(), 0);
        CHECKS.due("outDirect", x.outDirect(0, 0), 1);
        x.reset();
        CHECKS.due("none since reset", x.outDirect(0, 0), -1);
        CHECKS.feedAll(x, 100, 900);
        CHECKS.due("evalDirect", x.evalDirect(), 3);
        CHECKS.due("none that answered 0 since reset", x.outDirect(0, 0), -1);
    }

    /** "what the last evalDirect that answered 0 worked out" */
    private static void theLastThatAnsweredNought() {
        SquareCode x = new SquareCode(7, 1);
        CHECKS.feedAll(x, 100);
        CHECKS.due("evalDirect", x.evalDirect(), 0);
        CHECKS.feedAll(x, 702);
        CHECKS.due("none since the word", x.outDirect(0, 0), 1);
        CHECKS.due("evalDirect", x.evalDirect(), 0);
        CHECKS.due("the newer one", x.outDirect(0, 0), 2);
        CHECKS.due("compile", x.compile(), 0);
        CHECKS.due("optimise", x.optimise(), 0);
        CHECKS.due("it stays", x.outDirect(0, 0), 2);
    }

    private static void eachFaultKeepsTheLast() {
        int[] words = {900, 300, 100};
        for (int k = 0; k < 3; k++) {
            SquareCode x = new SquareCode(7, 1);
            CHECKS.feedAll(x, 100, 703);
            CHECKS.due("evalDirect", x.evalDirect(), 0);
            CHECKS.feedAll(x, 702, words[k]);
            CHECKS.due("the fault", x.evalDirect(), 3 + k);
            CHECKS.due("the last that answered 0", x.outDirect(0, 0), 3);
        }
    }

    /** "-1 if .. there is no such place" */
    private static void outDirectIfNoSuchPlace() {
        for (int n = 1; n <= 4; n++) {
            SquareCode x = new SquareCode(97, n);
            CHECKS.feedAll(x, 100, 796);
            CHECKS.due("evalDirect", x.evalDirect(), 0);
            for (int edge : new int[] {-1, -n, n, n + 1, Integer.MIN_VALUE, Integer.MAX_VALUE}) {
                CHECKS.due("row " + edge, x.outDirect(edge, 0), -1);
                CHECKS.due("column " + edge, x.outDirect(0, edge), -1);
                CHECKS.due("both " + edge, x.outDirect(edge, edge), -1);
            }
            CHECKS.due("the last place", x.outDirect(n - 1, n - 1), 96);
        }
    }
}
