/** Promise 1: a new object. */
public final class NewObjectTest {
    private static final Checks CHECKS = new Checks();

    public static void main(String[] args) {
        modulus();
        side();
        empty();
        CHECKS.finish();
    }

    /** The modulus shows in what -1 becomes. */
    private static int modulusOf(SquareCode x) {
        CHECKS.feedAll(x, 0);
        CHECKS.due("setInput", x.setInput(0, 0, 0, -1), 0);
        CHECKS.due("evalDirect", x.evalDirect(), 0);
        return x.outDirect(0, 0) + 1;
    }

    private static int sideOf(SquareCode x) {
        int side = 0;
        while (side < 9 && x.setInput(0, side, 0, 0) == 0 && x.setInput(0, 0, side, 0) == 0) {
            side++;
        }
        return side;
    }

    private static void modulus() {
        for (int p = 2; p <= 97; p++) {
            CHECKS.due("modulus for p = " + p, modulusOf(new SquareCode(p, 2)), p);
        }
        for (int p : new int[] {1, 0, -1, -7, 98, 1000, Integer.MIN_VALUE, Integer.MAX_VALUE}) {
            CHECKS.due("modulus for p = " + p, modulusOf(new SquareCode(p, 2)), 7);
        }
    }

    private static void side() {
        for (int n = 1; n <= 4; n++) {
            CHECKS.due("side for n = " + n, sideOf(new SquareCode(5, n)), n);
        }
        for (int n : new int[] {0, -1, 5, 6, 100, Integer.MIN_VALUE, Integer.MAX_VALUE}) {
            CHECKS.due("side for n = " + n, sideOf(new SquareCode(5, n)), 2);
        }
        CHECKS.due("a wrong n leaves p", modulusOf(new SquareCode(11, 9)), 11);
        CHECKS.due("a wrong p leaves n", sideOf(new SquareCode(0, 3)), 3);
    }

    private static void empty() {
        SquareCode x = new SquareCode(7, 2);
        CHECKS.due("new codeSize", x.codeSize(), -1);
        CHECKS.due("new products", x.products(), -1);
        CHECKS.due("new codeAt", x.codeAt(0), -1);
        CHECKS.due("new out", x.out(0, 0), -1);
        CHECKS.due("new outDirect", x.outDirect(0, 0), -1);
        CHECKS.due("new run", x.run(5), 7);
        CHECKS.due("new optimise", x.optimise(), 7);
        CHECKS.due("no words to compile", x.compile(), 5);
        CHECKS.due("no words to work out", x.evalDirect(), 5);
        for (int m = 0; m < 4; m++) {
            SquareCode y = new SquareCode(7, 2);
            CHECKS.feedAll(y, m);
            CHECKS.due("evalDirect", y.evalDirect(), 0);
            CHECKS.outDirectIs("new input " + m, y, new int[][] {{0, 0}, {0, 0}});
        }
    }
}
