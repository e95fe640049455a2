/** Promises 6 and 8: run and out. */
public final class RunTest {
    private static final Checks CHECKS = new Checks();
    private static final int[][] A = {{1, 2}, {3, 4}};
    private static final int[][] B = {{5, 6}, {0, 8}};

    public static void main(String[] args) {
        refusedWithoutCode();
        fuel();
        everyOperation();
        allFortyRegisters();
        placesOfOut();
        CHECKS.finish();
    }

    private static void refusedWithoutCode() {
        SquareCode x = new SquareCode(11, 2);
        CHECKS.due("run", x.run(1), 7);
        CHECKS.feedAll(x, 0);
        CHECKS.due("run", x.run(0), 7);
        CHECKS.due("run", x.run(-1), 7);
        CHECKS.due("out", x.out(0, 0), -1);
        CHECKS.due("compile", x.compile(), 0);
        CHECKS.due("run", x.run(1), 0);
        CHECKS.due("out", x.out(0, 0), 0);
    }

    private static void fuel() {
        SquareCode x = new SquareCode(11, 1);
        CHECKS.feedAll(x, 100, 702, 703, 704);
        CHECKS.due("compile", x.compile(), 0);
        CHECKS.due("none", x.run(0), 8);
        CHECKS.due("below 0", x.run(-1), 8);
        CHECKS.due("far below 0", x.run(Integer.MIN_VALUE), 8);
        CHECKS.due("one", x.run(1), 8);
        CHECKS.due("two", x.run(2), 8);
        CHECKS.due("not yet", x.out(0, 0), -1);
        CHECKS.due("below 0 takes none back", x.run(-3), 8);
        CHECKS.due("the last", x.run(1), 0);
        CHECKS.due("out", x.out(0, 0), 2);
        CHECKS.due("no more to do", x.run(0), 0);
        CHECKS.due("no more to do", x.run(-5), 0);
        CHECKS.due("no more to do", x.run(7), 0);
        CHECKS.due("out stays", x.out(0, 0), 2);
        CHECKS.due("setInput", x.setInput(0, 0, 0, 1), 0);
        CHECKS.due("all at once", x.run(Integer.MAX_VALUE), 0);
        CHECKS.due("setInput", x.setInput(0, 0, 0, 1), 0);
        CHECKS.due("one", x.run(1), 8);
        CHECKS.due("the rest", x.run(Integer.MAX_VALUE), 0);
        CHECKS.due("setInput", x.setInput(0, 0, 0, 1), 0);
        CHECKS.due("one too few", x.run(3), 8);
        CHECKS.due("setInput", x.setInput(0, 0, 0, 1), 0);
        CHECKS.due("just enough", x.run(4), 0);
    }

    private static void makes(String what, int[] words, int[][] want) {
        SquareCode x = new SquareCode(11, 2);
        CHECKS.setAll(x, 0, A);
        CHECKS.setAll(x, 1, B);
        CHECKS.feedAll(x, words);
        CHECKS.due(what + ": compile", x.compile(), 0);
        CHECKS.due(what + ": run", x.run(40), 0);
        CHECKS.outIs(what, x, want);
        CHECKS.due(what + ": optimise", x.optimise(), 0);
        CHECKS.due(what + ": run", x.run(40), 0);
        CHECKS.outIs(what + " optimised", x, want);
    }

    private static void everyOperation() {
        makes("PUSH", new int[] {1}, B);
        makes("ONE", new int[] {100}, new int[][] {{1, 0}, {0, 1}});
        makes("NOUGHT", new int[] {200}, new int[][] {{0, 0}, {0, 0}});
        makes("ADD", new int[] {0, 1, 300}, new int[][] {{6, 8}, {3, 1}});
        makes("SUB", new int[] {0, 1, 400}, new int[][] {{7, 7}, {3, 7}});
        makes("MUL", new int[] {0, 1, 500}, new int[][] {{5, 0}, {4, 6}});
        makes("MUL the other way", new int[] {1, 0, 500}, new int[][] {{1, 1}, {2, 10}});
        makes("TURN", new int[] {0, 600}, new int[][] {{1, 3}, {2, 4}});
        makes("SCALE", new int[] {0, 799}, new int[][] {{0, 0}, {0, 0}});
        makes("SCALE", new int[] {0, 795}, new int[][] {{7, 3}, {10, 6}});
        makes("POWER 2", new int[] {0, 802}, new int[][] {{7, 10}, {4, 0}});
        makes("POWER 3", new int[] {0, 803}, new int[][] {{4, 10}, {4, 8}});
        makes("POWER 0", new int[] {0, 800}, new int[][] {{1, 0}, {0, 1}});
    }

    /** 37 instructions and three more: the last register must not reach into an input. */
    private static void allFortyRegisters() {
        int[][] endings = {{1, 600, 300}, {1, 600, 400}, {1, 600, 500},
            {600, 702, 600}, {600, 600, 702}, {600, 600, 800}};
        int[][] wants = {{3, 5}, {4, 5}, {9, 7}, {7, 10}, {7, 10}, {1, 0}};
        for (int k = 0; k < endings.length; k++) {
            SquareCode x = new SquareCode(11, 2);
            CHECKS.setAll(x, 0, A);
            CHECKS.setAll(x, 1, B);
            CHECKS.feedAll(x, 0, 863, 863, 863, 815);
            CHECKS.feedAll(x, endings[k]);
            CHECKS.due("compile", x.compile(), 0);
            CHECKS.due("size", x.codeSize(), 40);
            for (int round = 0; round < 2; round++) {
                CHECKS.due("one too few", x.run(39), 8);
                CHECKS.due("just enough", x.run(1), 0);
                CHECKS.due("ending " + k, x.out(0, 0), wants[k][0]);
                CHECKS.due("ending " + k, x.out(0, 1), wants[k][1]);
                CHECKS.due("evalDirect", x.evalDirect(), 0);
                CHECKS.due("ending " + k, x.outDirect(0, 0), wants[k][0]);
                CHECKS.due("ending " + k, x.outDirect(0, 1), wants[k][1]);
                CHECKS.due("setInput", x.setInput(3, 0, 0, 0), 0);
            }
        }
    }

    private static void placesOfOut() {
        for (int n = 1; n <= 4; n++) {
            SquareCode x = new SquareCode(97, n);
            CHECKS.feedAll(x, 100, 795);
            CHECKS.due("compile", x.compile(), 0);
            CHECKS.due("run", x.run(2), 0);
            for (int edge : new int[] {-1, n, Integer.MIN_VALUE, Integer.MAX_VALUE}) {
                CHECKS.due("row " + edge, x.out(edge, 0), -1);
                CHECKS.due("column " + edge, x.out(0, edge), -1);
            }
            CHECKS.due("the last place", x.out(n - 1, n - 1), 95);
            CHECKS.due("the corner", x.out(0, n - 1), n == 1 ? 95 : 0);
        }
    }
}
