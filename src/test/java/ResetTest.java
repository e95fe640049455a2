/** Promise 13: reset. */
public final class ResetTest {
    private static final Checks CHECKS = new Checks();

    public static void main(String[] args) {
        noWords();
        noCode();
        noResults();
        inputsAreNought();
        ofANewObject();
        inTheMiddleOfARun();
        modulusAndSideStay();
        whileFull();
        CHECKS.finish();
    }

    private static SquareCode used() {
        SquareCode x = new SquareCode(13, 3);
        for (int m = 0; m < 4; m++) {
            CHECKS.setAll(x, m, new int[][] {{1, 2, 3}, {4, 5, 6}, {7, 8, 9}});
        }
        CHECKS.feedAll(x, 0, 1, 300, 2, 500, 3, 400);
        CHECKS.due("evalDirect", x.evalDirect(), 0);
        CHECKS.due("compile", x.compile(), 0);
        CHECKS.due("run", x.run(7), 0);
        CHECKS.isTrue("there is an outcome", x.out(0, 0) >= 0 && x.outDirect(0, 0) >= 0);
        return x;
    }

    private static SquareCode usedAndReset() {
        SquareCode x = used();
        x.reset();
        return x;
    }

    /** "No words" */
    private static void noWords() {
        SquareCode x = usedAndReset();
        CHECKS.due("compile", x.compile(), 5);
        CHECKS.due("evalDirect", x.evalDirect(), 5);
        CHECKS.due("a word that needs one", x.feed(600), 0);
        CHECKS.due("compile", x.compile(), 4);
    }

    /** "code" */
    private static void noCode() {
        SquareCode x = usedAndReset();
        CHECKS.due("codeSize", x.codeSize(), -1);
        CHECKS.due("products", x.products(), -1);
        for (int i = -1; i < 8; i++) {
            CHECKS.due("codeAt(" + i + ")", x.codeAt(i), -1);
        }
        CHECKS.due("run", x.run(9), 7);
        CHECKS.due("optimise", x.optimise(), 7);
        CHECKS.due("feed", x.feed(0), 0);
    }

    /** "and results" */
    private static void noResults() {
        SquareCode x = usedAndReset();
        for (int i = 0; i < 3; i++) {
            for (int j = 0; j < 3; j++) {
                CHECKS.due("out", x.out(i, j), -1);
                CHECKS.due("outDirect", x.outDirect(i, j), -1);
            }
        }
    }

    /** "the inputs have 0 everywhere" */
    private static void inputsAreNought() {
        for (int m = 0; m < 4; m++) {
            SquareCode x = usedAndReset();
            CHECKS.feedAll(x, m);
            CHECKS.due("evalDirect", x.evalDirect(), 0);
            CHECKS.outDirectIs("input " + m, x, new int[3][3]);
            CHECKS.due("compile", x.compile(), 0);
            CHECKS.due("nothing is done yet", x.run(0), 8);
            CHECKS.due("run", x.run(1), 0);
            CHECKS.outIs("input " + m, x, new int[3][3]);
        }
    }

    private static void ofANewObject() {
        SquareCode x = new SquareCode(7, 2);
        x.reset();
        CHECKS.due("compile", x.compile(), 5);
        CHECKS.due("codeSize", x.codeSize(), -1);
        CHECKS.feedAll(x, 100);
        CHECKS.due("compile", x.compile(), 0);
    }

    private static void inTheMiddleOfARun() {
        SquareCode x = used();
        CHECKS.due("compile", x.compile(), 0);
        CHECKS.due("run", x.run(2), 8);
        x.reset();
        CHECKS.feedAll(x, 100, 702);
        CHECKS.due("compile", x.compile(), 0);
        CHECKS.due("nothing is done yet", x.out(0, 0), -1);
        CHECKS.due("one of two", x.run(1), 8);
        CHECKS.due("two of two", x.run(1), 0);
        CHECKS.due("out", x.out(0, 0), 2);
    }

    private static void modulusAndSideStay() {
        SquareCode x = used();
        x.reset();
        CHECKS.due("setInput", x.setInput(0, 2, 2, -1), 0);
        CHECKS.due("setInput", x.setInput(0, 3, 2, -1), 2);
        CHECKS.feedAll(x, 0);
        CHECKS.due("evalDirect", x.evalDirect(), 0);
        CHECKS.due("modulus", x.outDirect(2, 2), 12);
    }

    private static void whileFull() {
        SquareCode x = new SquareCode(7, 2);
        for (int round = 0; round < 3; round++) {
            for (int k = 0; k < 24; k++) {
                CHECKS.feedAll(x, 0);
            }
            CHECKS.due("full", x.feed(0), 1);
            x.reset();
        }
        x.reset();
        CHECKS.feedAll(x, 100);
        CHECKS.due("compile", x.compile(), 0);
    }
}
