/** Promises 6 and 8: run and out. */
public final class RunTest {
    private static final Checks CHECKS = new Checks();
    private static final int[][] A = {{1, 2}, {3, 4}};
    private static final int[][] B = {{5, 6}, {0, 8}};

    public static void main(String[] args) {
        refusedWithoutCode();
        oneForEachPieceOfFuel();
        fuelBelowNought();
        tooLittleFuel();
        justEnoughFuel();
        moreThanEnoughFuel();
        allDoneAlready();
        everyOperation();
        allFortyRegisters();
        allFortyRegistersOfSideOne();
        outIfNotAllAreDone();
        outIfNoSuchPlace();
        CHECKS.finish();
    }

    /** "7, refused, if there is no code" */
    private static void refusedWithoutCode() {
        SquareCode x = new SquareCode(11, 2);
        CHECKS.due("no words", x.run(1), 7);
        CHECKS.feedAll(x, 0);
        for (int fuel : new int[] {1, 0, -1, 40, Integer.MAX_VALUE, Integer.MIN_VALUE}) {
            CHECKS.due("not compiled, fuel " + fuel, x.run(fuel), 7);
        }
        CHECKS.due("evalDirect", x.evalDirect(), 0);
        CHECKS.due("only worked out directly", x.run(1), 7);
        CHECKS.due("out", x.out(0, 0), -1);
        CHECKS.due("compile", x.compile(), 0);
        CHECKS.due("run", x.run(1), 0);
        CHECKS.due("out", x.out(0, 0), 0);
        x.reset();
        CHECKS.due("reset", x.run(1), 7);
    }

    /** Four instructions, 2 in the end. */
    private static SquareCode ofFour() {
        SquareCode x = new SquareCode(11, 1);
        CHECKS.feedAll(x, 100, 702, 703, 704);
        CHECKS.due("compile", x.compile(), 0);
        return x;
    }

    /** "one for each piece of fuel", "instructions further" */
    private static void oneForEachPieceOfFuel() {
        SquareCode x = ofFour();
        CHECKS.due("one", x.run(1), 8);
        CHECKS.due("three", x.run(2), 8);
        CHECKS.due("not yet", x.out(0, 0), -1);
        CHECKS.due("the last", x.run(1), 0);
        CHECKS.due("out", x.out(0, 0), 2);
    }

    /** "(fuel below 0 is none)" */
    private static void fuelBelowNought() {
        SquareCode x = ofFour();
        for (int fuel : new int[] {0, -1, -4, Integer.MIN_VALUE}) {
            CHECKS.due("none of four, fuel " + fuel, x.run(fuel), 8);
        }
        CHECKS.due("three", x.run(3), 8);
        for (int fuel : new int[] {0, -1, -3, -4, Integer.MIN_VALUE}) {
            CHECKS.due("none taken back, fuel " + fuel, x.run(fuel), 8);
        }
        CHECKS.due("the last", x.run(1), 0);
        CHECKS.due("out", x.out(0, 0), 2);
    }

    /** "8 if not" */
    private static void tooLittleFuel() {
        for (int fuel = 0; fuel < 4; fuel++) {
            SquareCode x = ofFour();
            CHECKS.due("fuel " + fuel, x.run(fuel), 8);
            CHECKS.due("not yet", x.out(0, 0), -1);
            CHECKS.due("the others", x.run(4 - fuel), 0);
        }
    }

    /** "0 if all are done then" */
    private static void justEnoughFuel() {
        SquareCode x = ofFour();
        CHECKS.due("all four", x.run(4), 0);
        CHECKS.due("out", x.out(0, 0), 2);
    }

    /** "Runs at most fuel instructions further" */
    private static void moreThanEnoughFuel() {
        for (int fuel : new int[] {5, 40, 41, 1000, Integer.MAX_VALUE}) {
            SquareCode x = ofFour();
            CHECKS.due("fuel " + fuel, x.run(fuel), 0);
            CHECKS.due("out", x.out(0, 0), 2);
            SquareCode y = ofFour();
            CHECKS.due("one", y.run(1), 8);
            CHECKS.due("the rest, fuel " + fuel, y.run(fuel), 0);
            CHECKS.due("out", y.out(0, 0), 2);
        }
    }

    private static void allDoneAlready() {
        SquareCode x = ofFour();
        CHECKS.due("all", x.run(4), 0);
        for (int fuel : new int[] {0, -5, 1, 7, Integer.MIN_VALUE, Integer.MAX_VALUE}) {
            CHECKS.due("no more to do, fuel " + fuel, x.run(fuel), 0);
            CHECKS.due("out stays", x.out(0, 0), 2);
        }
    }

    private static void makes(String what, int[] words, int[][] want) {
        SquareCode x = new SquareCode(11, 2);
        CHECKS.setAll(x, 0, A);
        CHECKS.setAll(x, 1, B);
        CHECKS.feedAll(x, words);
        CHECKS.due(what + ": compile", x.compile(), 0);
        CHECKS.due(what + ": run", x.run(40), 0);
        CHECKS.outIs(what, x, want);
        CHECKS.due(what + ": optimise", x.optimise(), 0);
        CHECKS.due(what + ": run", x.run(40), 0);
        CHECKS.outIs(what + " optimised", x, want);
    }

    private static void everyOperation() {
        makes("PUSH", new int[] {1}, B);
        makes("ONE", new int[] {100}, new int[][] {{1, 0}, {0, 1}});
        makes("NOUGHT", new int[] {200}, new int[][] {{0, 0}, {0, 0}});
        makes("NOUGHT later", new int[] {0, 200, 400}, A);
        makes("NOUGHT later", new int[] {0, 1, 200, 500, 300}, A);
        makes("ONE later", new int[] {0, 100, 500}, A);
        makes("ONE later", new int[] {0, 100, 300}, new int[][] {{2, 2}, {3, 5}});
        makes("ADD", new int[] {0, 1, 300}, new int[][] {{6, 8}, {3, 1}});
        makes("SUB", new int[] {0, 1, 400}, new int[][] {{7, 7}, {3, 7}});
        makes("MUL", new int[] {0, 1, 500}, new int[][] {{5, 0}, {4, 6}});
        makes("MUL the other way", new int[] {1, 0, 500}, new int[][] {{1, 1}, {2, 10}});
        makes("TURN", new int[] {0, 600}, new int[][] {{1, 3}, {2, 4}});
        makes("SCALE", new int[] {0, 799}, new int[][] {{0, 0}, {0, 0}});
        makes("SCALE", new int[] {0, 795}, new int[][] {{7, 3}, {10, 6}});
        makes("POWER 2", new int[] {0, 802}, new int[][] {{7, 10}, {4, 0}});
        makes("POWER 3", new int[] {0, 803}, new int[][] {{4, 10}, {4, 8}});
        makes("POWER 0", new int[] {0, 800}, new int[][] {{1, 0}, {0, 1}});
    }

    /** 37 instructions and three more: the last register must not reach into an input. */
    private static void allFortyRegisters() {
        int[][] endings = {{1, 600, 300}, {1, 600, 400}, {1, 600, 500},
            {600, 702, 600}, {600, 600, 702}, {600, 600, 800}};
        int[][] wants = {{3, 5}, {4, 5}, {9, 7}, {7, 10}, {7, 10}, {1, 0}};
        for (int k = 0; k < endings.length; k++) {
            SquareCode x = new SquareCode(11, 2);
            CHECKS.setAll(x, 0, A);
            CHECKS.setAll(x, 1, B);
            CHECKS.feedAll(x, 0, 863, 863, 863, 815);
            CHECKS.feedAll(x, endings[k]);
            CHECKS.due("compile", x.compile(), 0);
            CHECKS.due("size", x.codeSize(), 40);
            for (int round = 0; round < 2; round++) {
                CHECKS.due("one too few", x.run(39), 8);
                CHECKS.due("just enough", x.run(1), 0);
                CHECKS.due("ending " + k, x.out(0, 0), wants[k][0]);
                CHECKS.due("ending " + k, x.out(0, 1), wants[k][1]);
                CHECKS.due("evalDirect", x.evalDirect(), 0);
                CHECKS.due("ending " + k, x.outDirect(0, 0), wants[k][0]);
                CHECKS.due("ending " + k, x.outDirect(0, 1), wants[k][1]);
                CHECKS.due("setInput", x.setInput(3, 0, 0, 0), 0);
            }
        }
    }

    /** Small matrices lie closest to what comes behind the registers. */
    private static void allFortyRegistersOfSideOne() {
        int[][] endings = {{600, 100, 300}, {600, 200, 300}, {600, 3, 300}, {100, 600, 300},
            {100, 800, 300}, {200, 800, 300}, {3, 702, 300}};
        int[] wants = {0, 10, 4, 0, 0, 0, 9};
        for (int k = 0; k < endings.length; k++) {
            SquareCode x = new SquareCode(11, 1);
            CHECKS.setAll(x, 0, new int[][] {{10}});
            CHECKS.setAll(x, 3, new int[][] {{5}});
            CHECKS.feedAll(x, 0, 863, 863, 863, 815);
            CHECKS.feedAll(x, endings[k]);
            CHECKS.due("compile", x.compile(), 0);
            CHECKS.due("size", x.codeSize(), 40);
            for (int round = 0; round < 3; round++) {
                CHECKS.due("setInput", x.setInput(1, 0, 0, round), 0);
                CHECKS.due("run", x.run(40), 0);
                CHECKS.due("ending " + k, x.out(0, 0), wants[k]);
                CHECKS.due("evalDirect", x.evalDirect(), 0);
                CHECKS.due("ending " + k, x.outDirect(0, 0), wants[k]);
            }
        }
    }

    /** "if all instructions are done; else -1" */
    private static void outIfNotAllAreDone() {
        SquareCode x = new SquareCode(11, 1);
        CHECKS.due("no words", x.out(0, 0), -1);
        CHECKS.feedAll(x, 100, 702);
        CHECKS.due("no code", x.out(0, 0), -1);
        CHECKS.due("compile", x.compile(), 0);
        CHECKS.due("none is done", x.out(0, 0), -1);
        CHECKS.due("run", x.run(1), 8);
        CHECKS.due("one of two is done", x.out(0, 0), -1);
        CHECKS.due("run", x.run(1), 0);
        CHECKS.due("both are done", x.out(0, 0), 2);
        CHECKS.due("optimise", x.optimise(), 0);
        CHECKS.due("none is done again", x.out(0, 0), -1);
        CHECKS.due("run", x.run(2), 0);
        CHECKS.due("both are done again", x.out(0, 0), 2);
        x.reset();
        CHECKS.due("reset", x.out(0, 0), -1);
    }

    /** "-1, also if there is no such place" */
    private static void outIfNoSuchPlace() {
        for (int n = 1; n <= 4; n++) {
            SquareCode x = new SquareCode(97, n);
            CHECKS.feedAll(x, 100, 795);
            CHECKS.due("compile", x.compile(), 0);
            CHECKS.due("run", x.run(2), 0);
            for (int edge : new int[] {-1, -n, n, n + 1, Integer.MIN_VALUE, Integer.MAX_VALUE}) {
                CHECKS.due("row " + edge, x.out(edge, 0), -1);
                CHECKS.due("column " + edge, x.out(0, edge), -1);
                CHECKS.due("both " + edge, x.out(edge, edge), -1);
            }
            CHECKS.due("the last place", x.out(n - 1, n - 1), 95);
            CHECKS.due("the corner", x.out(0, n - 1), n == 1 ? 95 : 0);
        }
    }
}
