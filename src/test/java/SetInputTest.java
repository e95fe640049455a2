/** Promise 3: setInput. */
public final class SetInputTest {
    private static final Checks CHECKS = new Checks();
    private static final int LEAST = Integer.MIN_VALUE;
    private static final int MOST = Integer.MAX_VALUE;

    public static void main(String[] args) {
        eachCellOfEachInput();
        valueOfPAndMore();
        valueBelowNought();
        refusedForTheInput();
        refusedForTheRow();
        refusedForTheColumn();
        refusedChangesNothing();
        rewinds();
        leavesTheWorkedOut();
        CHECKS.finish();
    }

    /** "The number in row i, column j of input m becomes v" */
    private static void eachCellOfEachInput() {
        for (int n = 1; n <= 4; n++) {
            for (int m = 0; m < 4; m++) {
                SquareCode x = new SquareCode(97, n);
                CHECKS.feedAll(x, m);
                for (int other = 0; other < 4; other++) {
                    CHECKS.setAll(x, other, numbers(n, 20 * other));
                }
                CHECKS.due("evalDirect", x.evalDirect(), 0);
                CHECKS.outDirectIs("input " + m + " of side " + n, x, numbers(n, 20 * m));
            }
        }
    }

    private static int[][] numbers(int n, int from) {
        int[][] rows = new int[n][n];
        for (int k = 0; k < n * n; k++) {
            rows[k / n][k % n] = from + k + 1;
        }
        return rows;
    }

    private static void becomes(int p, int v, long want) {
        SquareCode x = new SquareCode(p, 1);
        CHECKS.feedAll(x, 0);
        CHECKS.due("setInput " + v, x.setInput(0, 0, 0, v), 0);
        CHECKS.due("evalDirect", x.evalDirect(), 0);
        CHECKS.due(v + " modulo " + p, x.outDirect(0, 0), want);
        CHECKS.due("compile", x.compile(), 0);
        CHECKS.due("run", x.run(1), 0);
        CHECKS.due(v + " modulo " + p, x.out(0, 0), want);
    }

    /** "v modulo P (0 .. P - 1" */
    private static void valueOfPAndMore() {
        for (int p : new int[] {2, 7, 12, 97}) {
            becomes(p, 0, 0);
            becomes(p, p - 1, p - 1);
            becomes(p, p, 0);
            becomes(p, p + 1, 1);
            becomes(p, 2 * p - 1, p - 1);
            becomes(p, 100 * p, 0);
            becomes(p, MOST, MOST % p);
        }
    }

    /** "also for v below 0)" */
    private static void valueBelowNought() {
        for (int p : new int[] {2, 7, 12, 97}) {
            becomes(p, -1, p - 1);
            becomes(p, 1 - p, 1);
            becomes(p, -p, 0);
            becomes(p, -p - 1, p - 1);
            becomes(p, -100 * p, 0);
            becomes(p, -100 * p - 1, p - 1);
            becomes(p, LEAST, ((long) LEAST % p + p) % p);
            becomes(p, LEAST + 1, ((long) (LEAST + 1) % p + p) % p);
        }
    }

    /** "2, refused, if m is not 0 .. 3" */
    private static void refusedForTheInput() {
        SquareCode x = new SquareCode(7, 4);
        for (int m : new int[] {LEAST, -4, -1, 4, 5, 40, MOST}) {
            CHECKS.due("input " + m, x.setInput(m, 0, 0, 1), 2);
        }
        CHECKS.due("input 0", x.setInput(0, 0, 0, 1), 0);
        CHECKS.due("input 3", x.setInput(3, 0, 0, 1), 0);
    }

    /** "2, refused, if .. i .. not 0 .. N - 1" */
    private static void refusedForTheRow() {
        for (int n = 1; n <= 4; n++) {
            SquareCode x = new SquareCode(7, n);
            for (int i : new int[] {LEAST, -n, -1, n, n + 1, MOST}) {
                CHECKS.due("row " + i + " of " + n, x.setInput(0, i, 0, 1), 2);
            }
            CHECKS.due("the first row", x.setInput(0, 0, 0, 1), 0);
            CHECKS.due("the last row", x.setInput(0, n - 1, 0, 1), 0);
        }
    }

    /** "2, refused, if .. j not 0 .. N - 1" */
    private static void refusedForTheColumn() {
        for (int n = 1; n <= 4; n++) {
            SquareCode x = new SquareCode(7, n);
            for (int j : new int[] {LEAST, -n, -1, n, n + 1, MOST}) {
                CHECKS.due("column " + j + " of " + n, x.setInput(0, 0, j, 1), 2);
                CHECKS.due("column " + j + " of " + n, x.setInput(0, n - 1, j, 1), 2);
            }
            CHECKS.due("the first column", x.setInput(0, 0, 0, 1), 0);
            CHECKS.due("the last column", x.setInput(0, 0, n - 1, 1), 0);
        }
    }

    /** "refused" with "changes nothing else": neither a number nor how far the run is. */
    private static void refusedChangesNothing() {
        for (int push = 0; push < 4; push++) {
            SquareCode x = new SquareCode(7, 3);
            CHECKS.feedAll(x, push);
            CHECKS.due("compile", x.compile(), 0);
            CHECKS.due("run", x.run(1), 0);
            for (int edge : new int[] {LEAST, -1, 3, 4, MOST}) {
                CHECKS.due("row " + edge, x.setInput(push, edge, 0, 1), 2);
                CHECKS.due("column " + edge, x.setInput(push, 0, edge, 1), 2);
                CHECKS.due("input", x.setInput(edge == 3 ? 5 : edge, 0, 0, 1), 2);
            }
            CHECKS.outIs("no rewinding", x, new int[3][3]);
            CHECKS.due("evalDirect", x.evalDirect(), 0);
            CHECKS.outDirectIs("nothing was set", x, new int[3][3]);
        }
    }

    /** "and it rewinds: 0" */
    private static void rewinds() {
        SquareCode x = new SquareCode(7, 2);
        CHECKS.feedAll(x, 0, 600);
        CHECKS.due("compile", x.compile(), 0);
        CHECKS.due("run", x.run(2), 0);
        CHECKS.due("an input that is not used, to what it was", x.setInput(3, 0, 0, 0), 0);
        CHECKS.due("rewound", x.out(0, 0), -1);
        CHECKS.due("both are to be done", x.run(1), 8);
        CHECKS.due("setInput between", x.setInput(0, 0, 1, 5), 0);
        CHECKS.due("both are to be done again", x.run(1), 8);
        CHECKS.due("the second", x.run(1), 0);
        CHECKS.outIs("the new input", x, new int[][] {{0, 0}, {5, 0}});
        CHECKS.codeIs("the code stays", x, 0, 60000);
    }

    private static void leavesTheWorkedOut() {
        SquareCode x = new SquareCode(7, 1);
        CHECKS.feedAll(x, 0);
        CHECKS.due("setInput", x.setInput(0, 0, 0, 4), 0);
        CHECKS.due("evalDirect", x.evalDirect(), 0);
        CHECKS.due("setInput", x.setInput(0, 0, 0, 5), 0);
        CHECKS.due("what was worked out stays", x.outDirect(0, 0), 4);
    }
}
