/** Promise 2: feed. */
public final class FeedTest {
    private static final Checks CHECKS = new Checks();

    public static void main(String[] args) {
        fullAtTwentyFour();
        anyNumberIsTaken();
        refusedOnceCompiled();
        CHECKS.finish();
    }

    private static void fullAtTwentyFour() {
        SquareCode x = new SquareCode(7, 2);
        CHECKS.feedAll(x, 0);
        for (int k = 1; k < 24; k++) {
            CHECKS.due("word " + k, x.feed(600), 0);
        }
        CHECKS.due("word 24", x.feed(900), 1);
        CHECKS.due("word 24 again", x.feed(600), 1);
        CHECKS.due("the refused words are not there", x.compile(), 0);
        CHECKS.due("24 instructions", x.codeSize(), 24);
    }

    private static void anyNumberIsTaken() {
        for (int word : new int[] {-1, 4, 99, 301, 900, Integer.MIN_VALUE, Integer.MAX_VALUE}) {
            SquareCode x = new SquareCode(7, 2);
            CHECKS.feedAll(x, 0, word);
            CHECKS.due("compile with " + word, x.compile(), 3);
        }
    }

    private static void refusedOnceCompiled() {
        SquareCode x = new SquareCode(7, 2);
        CHECKS.feedAll(x, 0, 0);
        CHECKS.due("a fault is no code", x.compile(), 5);
        CHECKS.feedAll(x, 300);
        CHECKS.due("evalDirect is no code", x.evalDirect(), 0);
        CHECKS.feedAll(x, 600);
        CHECKS.due("compile", x.compile(), 0);
        CHECKS.due("feed to compiled", x.feed(600), 1);
        CHECKS.due("optimise", x.optimise(), 0);
        CHECKS.due("feed to optimised", x.feed(600), 1);
        CHECKS.due("compile anew", x.compile(), 0);
        CHECKS.codeIs("no word came", x, 0, 0, 30001, 60200);
        x.reset();
        CHECKS.feedAll(x, 100);
    }
}
