/** Promise 1: a new object. */
public final class NewObjectTest {
    private static final Checks CHECKS = new Checks();

    public static void main(String[] args) {
        modulusWithin();
        modulusOutside();
        sideWithin();
        sideOutside();
        oneWrongLeavesTheOther();
        noWords();
        noCode();
        CHECKS.finish();
    }

    /** The modulus shows in what -1 becomes. */
    private static int modulusOf(SquareCode x) {
        CHECKS.feedAll(x, 0);
        CHECKS.due("setInput", x.setInput(0, 0, 0, -1), 0);
        CHECKS.due("evalDirect", x.evalDirect(), 0);
        return x.outDirect(0, 0) + 1;
    }

    private static int sideOf(SquareCode x) {
        int side = 0;
        while (side < 9 && x.setInput(0, side, 0, 0) == 0 && x.setInput(0, 0, side, 0) == 0) {
            side++;
        }
        return side;
    }

    /** "P is p if that is 2 .. 97" */
    private static void modulusWithin() {
        for (int p = 2; p <= 97; p++) {
            CHECKS.due("modulus for p = " + p, modulusOf(new SquareCode(p, 2)), p);
        }
    }

    /** "else 7" */
    private static void modulusOutside() {
        for (int p : new int[] {1, 0, -1, -2, -7, -97, Integer.MIN_VALUE}) {
            CHECKS.due("p too small: " + p, modulusOf(new SquareCode(p, 2)), 7);
        }
        for (int p : new int[] {98, 99, 100, 1000, Integer.MAX_VALUE}) {
            CHECKS.due("p too large: " + p, modulusOf(new SquareCode(p, 2)), 7);
        }
    }

    /** "N is n if that is 1 .. 4" */
    private static void sideWithin() {
        for (int n = 1; n <= 4; n++) {
            CHECKS.due("side for n = " + n, sideOf(new SquareCode(5, n)), n);
        }
    }

    /** "else 2" */
    private static void sideOutside() {
        for (int n : new int[] {0, -1, -2, -4, Integer.MIN_VALUE}) {
            CHECKS.due("n too small: " + n, sideOf(new SquareCode(5, n)), 2);
        }
        for (int n : new int[] {5, 6, 100, Integer.MAX_VALUE}) {
            CHECKS.due("n too large: " + n, sideOf(new SquareCode(5, n)), 2);
        }
    }

    private static void oneWrongLeavesTheOther() {
        CHECKS.due("a wrong n leaves p", modulusOf(new SquareCode(11, 9)), 11);
        CHECKS.due("a wrong p leaves n", sideOf(new SquareCode(0, 3)), 3);
        CHECKS.due("both wrong: p", modulusOf(new SquareCode(98, 5)), 7);
        CHECKS.due("both wrong: n", sideOf(new SquareCode(1, 0)), 2);
    }

    /** "No words" */
    private static void noWords() {
        SquareCode x = new SquareCode(7, 2);
        CHECKS.due("no words to compile", x.compile(), 5);
        CHECKS.due("no words to work out", x.evalDirect(), 5);
        for (int k = 0; k < 24; k++) {
            CHECKS.due("room for word " + k, x.feed(0), 0);
        }
    }

    /** "no code" */
    private static void noCode() {
        SquareCode x = new SquareCode(7, 2);
        CHECKS.due("new codeSize", x.codeSize(), -1);
        CHECKS.due("new products", x.products(), -1);
        CHECKS.due("new codeAt", x.codeAt(0), -1);
        CHECKS.due("new out", x.out(0, 0), -1);
        CHECKS.due("new outDirect", x.outDirect(0, 0), -1);
        CHECKS.due("new run", x.run(5), 7);
        CHECKS.due("new optimise", x.optimise(), 7);
    }
}
