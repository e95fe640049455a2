/** Promise 2: feed. */
public final class FeedTest {
    private static final Checks CHECKS = new Checks();

    public static void main(String[] args) {
        comesToTheEnd();
        refusedIfThereAre24();
        refusedIfCompiledAlready();
        refusedIfBoth();
        aFaultIsNotCompiled();
        anyNumberIsTaken();
        CHECKS.finish();
    }

    /** "A word comes to the end of the source: 0" */
    private static void comesToTheEnd() {
        SquareCode x = new SquareCode(7, 2);
        CHECKS.due("first", x.feed(2), 0);
        CHECKS.due("second", x.feed(600), 0);
        CHECKS.due("third", x.feed(1), 0);
        CHECKS.due("fourth", x.feed(400), 0);
        CHECKS.due("compile", x.compile(), 0);
        CHECKS.codeIs("in their order", x, 2, 60000, 1, 40102);
    }

    /** "1, refused, if there are 24" */
    private static void refusedIfThereAre24() {
        SquareCode x = new SquareCode(7, 2);
        CHECKS.feedAll(x, 0);
        for (int k = 1; k < 24; k++) {
            CHECKS.due("after " + k + " words", x.feed(600), 0);
        }
        CHECKS.due("a number that is no word", x.feed(900), 1);
        CHECKS.due("a word", x.feed(600), 1);
        CHECKS.due("a word of one matrix more", x.feed(0), 1);
        CHECKS.due("the refused words are not there", x.evalDirect(), 0);
        CHECKS.due("the refused words are not there", x.compile(), 0);
        CHECKS.due("24 instructions", x.codeSize(), 24);
    }

    /** "1, refused, if .. it is compiled already" */
    private static void refusedIfCompiledAlready() {
        SquareCode x = new SquareCode(7, 2);
        CHECKS.feedAll(x, 0, 0, 300, 600);
        CHECKS.due("compile", x.compile(), 0);
        CHECKS.due("compiled", x.feed(600), 1);
        CHECKS.due("run", x.run(4), 0);
        CHECKS.due("run to its end", x.feed(600), 1);
        CHECKS.due("optimise", x.optimise(), 0);
        CHECKS.due("optimised", x.feed(600), 1);
        CHECKS.due("compile anew", x.compile(), 0);
        CHECKS.codeIs("no word came", x, 0, 0, 30001, 60200);
        x.reset();
        CHECKS.due("not compiled any more", x.feed(100), 0);
    }

    private static void refusedIfBoth() {
        SquareCode x = new SquareCode(7, 2);
        CHECKS.feedAll(x, 0);
        for (int k = 1; k < 24; k++) {
            CHECKS.feedAll(x, 801);
        }
        CHECKS.due("compile", x.compile(), 0);
        CHECKS.due("24 and compiled", x.feed(600), 1);
        CHECKS.codeIs("no word came", x, 0);
    }

    private static void aFaultIsNotCompiled() {
        SquareCode x = new SquareCode(7, 2);
        CHECKS.feedAll(x, 0, 0);
        CHECKS.due("compile", x.compile(), 5);
        CHECKS.due("after a fault", x.feed(300), 0);
        CHECKS.due("evalDirect", x.evalDirect(), 0);
        CHECKS.due("after evalDirect", x.feed(600), 0);
        CHECKS.due("compile", x.compile(), 0);
        CHECKS.codeIs("both came", x, 0, 0, 30001, 60200);
    }

    private static void anyNumberIsTaken() {
        for (int word : new int[] {-1, 4, 99, 301, 900, Integer.MIN_VALUE, Integer.MAX_VALUE}) {
            SquareCode x = new SquareCode(7, 2);
            CHECKS.feedAll(x, 0, word);
            CHECKS.due("compile with " + word, x.compile(), 3);
        }
    }
}
