/** Promise 13: reset. */
public final class ResetTest {
    private static final Checks CHECKS = new Checks();

    public static void main(String[] args) {
        everythingGoes();
        modulusAndSideStay();
        whileFull();
        CHECKS.finish();
    }

    private static SquareCode used() {
        SquareCode x = new SquareCode(13, 3);
        for (int m = 0; m < 4; m++) {
            CHECKS.setAll(x, m, new int[][] {{1, 2, 3}, {4, 5, 6}, {7, 8, 9}});
        }
        CHECKS.feedAll(x, 0, 1, 300, 2, 500, 3, 400);
        CHECKS.due("evalDirect", x.evalDirect(), 0);
        CHECKS.due("compile", x.compile(), 0);
        CHECKS.due("run", x.run(7), 0);
        CHECKS.isTrue("there is an outcome", x.out(0, 0) >= 0 && x.outDirect(0, 0) >= 0);
        return x;
    }

    private static void everythingGoes() {
        SquareCode x = used();
        x.reset();
        CHECKS.due("codeSize", x.codeSize(), -1);
        CHECKS.due("products", x.products(), -1);
        CHECKS.due("codeAt", x.codeAt(0), -1);
        CHECKS.due("out", x.out(0, 0), -1);
        CHECKS.due("outDirect", x.outDirect(0, 0), -1);
        CHECKS.due("run", x.run(9), 7);
        CHECKS.due("optimise", x.optimise(), 7);
        CHECKS.due("no words", x.compile(), 5);
        CHECKS.due("no words", x.evalDirect(), 5);
        for (int m = 0; m < 4; m++) {
            SquareCode y = used();
            y.reset();
            CHECKS.feedAll(y, m);
            CHECKS.due("evalDirect", y.evalDirect(), 0);
            CHECKS.outDirectIs("input " + m, y, new int[3][3]);
            CHECKS.due("compile", y.compile(), 0);
            CHECKS.due("nothing is done yet", y.run(0), 8);
            CHECKS.due("run", y.run(1), 0);
            CHECKS.outIs("input " + m, y, new int[3][3]);
        }
    }

    private static void modulusAndSideStay() {
        SquareCode x = used();
        x.reset();
        CHECKS.due("setInput", x.setInput(0, 2, 2, -1), 0);
        CHECKS.due("setInput", x.setInput(0, 3, 2, -1), 2);
        CHECKS.feedAll(x, 0);
        CHECKS.due("evalDirect", x.evalDirect(), 0);
        CHECKS.due("modulus", x.outDirect(2, 2), 12);
    }

    private static void whileFull() {
        SquareCode x = new SquareCode(7, 2);
        for (int round = 0; round < 3; round++) {
            for (int k = 0; k < 24; k++) {
                CHECKS.feedAll(x, 0);
            }
            CHECKS.due("full", x.feed(0), 1);
            x.reset();
        }
        x.reset();
        CHECKS.feedAll(x, 100);
        CHECKS.due("compile", x.compile(), 0);
    }
}
