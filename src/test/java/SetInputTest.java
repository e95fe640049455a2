/** Promise 3: setInput. */
public final class SetInputTest {
    private static final Checks CHECKS = new Checks();
    private static final int[] EDGES = {Integer.MIN_VALUE, -1, 3, 4, Integer.MAX_VALUE};

    public static void main(String[] args) {
        eachCellOfEachInput();
        moduloP();
        wrongPlaces();
        rewinds();
        leavesTheWorkedOut();
        CHECKS.finish();
    }

    private static void eachCellOfEachInput() {
        for (int n = 1; n <= 4; n++) {
            for (int m = 0; m < 4; m++) {
                SquareCode x = new SquareCode(97, n);
                CHECKS.feedAll(x, m);
                for (int other = 0; other < 4; other++) {
                    CHECKS.setAll(x, other, numbers(n, 20 * other));
                }
                CHECKS.due("evalDirect", x.evalDirect(), 0);
                CHECKS.outDirectIs("input " + m + " of side " + n, x, numbers(n, 20 * m));
            }
        }
    }

    private static int[][] numbers(int n, int from) {
        int[][] rows = new int[n][n];
        for (int k = 0; k < n * n; k++) {
            rows[k / n][k % n] = from + k + 1;
        }
        return rows;
    }

    private static void moduloP() {
        SquareCode x = new SquareCode(7, 1);
        CHECKS.feedAll(x, 0);
        int[] given = {6, 7, 8, -1, -7, -8, 700, Integer.MAX_VALUE, Integer.MIN_VALUE};
        for (int v : given) {
            CHECKS.due("setInput " + v, x.setInput(0, 0, 0, v), 0);
            CHECKS.due("evalDirect", x.evalDirect(), 0);
            CHECKS.due(v + " modulo 7", x.outDirect(0, 0), ((v % 7L) + 7) % 7);
        }
    }

    private static void wrongPlaces() {
        SquareCode x = new SquareCode(7, 3);
        CHECKS.feedAll(x, 0);
        CHECKS.due("compile", x.compile(), 0);
        CHECKS.due("run", x.run(1), 0);
        for (int edge : EDGES) {
            CHECKS.due("row " + edge, x.setInput(0, edge, 0, 1), 2);
            CHECKS.due("column " + edge, x.setInput(0, 0, edge, 1), 2);
            if (edge != 3) {
                CHECKS.due("input " + edge, x.setInput(edge, 0, 0, 1), 2);
            }
        }
        CHECKS.outIs("refused calls neither set nor rewind", x, new int[3][3]);
        CHECKS.due("evalDirect", x.evalDirect(), 0);
        CHECKS.outDirectIs("nothing was set", x, new int[3][3]);
    }

    private static void rewinds() {
        SquareCode x = new SquareCode(7, 2);
        CHECKS.feedAll(x, 0, 600);
        CHECKS.due("compile", x.compile(), 0);
        CHECKS.due("run", x.run(2), 0);
        CHECKS.due("an input that is not used, to what it was", x.setInput(3, 0, 0, 0), 0);
        CHECKS.due("rewound", x.out(0, 0), -1);
        CHECKS.due("both are to be done", x.run(1), 8);
        CHECKS.due("setInput between", x.setInput(0, 0, 1, 5), 0);
        CHECKS.due("both are to be done again", x.run(1), 8);
        CHECKS.due("the second", x.run(1), 0);
        CHECKS.outIs("the new input", x, new int[][] {{0, 0}, {5, 0}});
        CHECKS.codeIs("the code stays", x, 0, 60000);
    }

    private static void leavesTheWorkedOut() {
        SquareCode x = new SquareCode(7, 1);
        CHECKS.feedAll(x, 0);
        CHECKS.due("setInput", x.setInput(0, 0, 0, 4), 0);
        CHECKS.due("evalDirect", x.evalDirect(), 0);
        CHECKS.due("setInput", x.setInput(0, 0, 0, 5), 0);
        CHECKS.due("what was worked out stays", x.outDirect(0, 0), 4);
    }
}
