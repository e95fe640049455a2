/** Counts the answers that are not the ones due, and ends a test with its exit code. */
final class Checks {
    private int looked = 0;
    private int wrong = 0;

    void due(String what, long got, long want) {
        looked++;
        if (got != want) {
            wrong++;
            System.out.println(what + " answered " + got + ", due is " + want);
        }
    }

    void isTrue(String what, boolean holds) {
        due(what, holds ? 1 : 0, 1);
    }

    /** Feeds words that must all be taken. */
    void feedAll(SquareCode x, int... words) {
        for (int word : words) {
            due("feed(" + word + ")", x.feed(word), 0);
        }
    }

    /** Sets an input row by row; it must be taken. */
    void setAll(SquareCode x, int m, int[][] rows) {
        for (int i = 0; i < rows.length; i++) {
            for (int j = 0; j < rows[i].length; j++) {
                String what = "setInput(" + m + ", " + i + ", " + j + ", " + rows[i][j] + ")";
                due(what, x.setInput(m, i, j, rows[i][j]), 0);
            }
        }
    }

    void codeIs(String what, SquareCode x, int... instructions) {
        due(what + ": codeSize()", x.codeSize(), instructions.length);
        for (int k = 0; k < instructions.length; k++) {
            due(what + ": codeAt(" + k + ")", x.codeAt(k), instructions[k]);
        }
        due(what + ": codeAt after the last", x.codeAt(instructions.length), -1);
    }

    void outIs(String what, SquareCode x, int[][] rows) {
        for (int i = 0; i < rows.length; i++) {
            for (int j = 0; j < rows[i].length; j++) {
                due(what + ": out(" + i + ", " + j + ")", x.out(i, j), rows[i][j]);
            }
        }
    }

    void outDirectIs(String what, SquareCode x, int[][] rows) {
        for (int i = 0; i < rows.length; i++) {
            for (int j = 0; j < rows[i].length; j++) {
                due(what + ": outDirect(" + i + ", " + j + ")", x.outDirect(i, j), rows[i][j]);
            }
        }
    }

    void finish() {
        System.out.println(wrong + " of " + looked + " answers are not as due");
        if (wrong != 0 || looked == 0) {
            System.exit(1);
        }
    }
}
