/** Promises 4 and 7: the faults of the source. */
public final class FaultTest {
    private static final Checks CHECKS = new Checks();

    public static void main(String[] args) {
        everyWordAlone();
        theFirstFaultIsTold();
        theEnd();
        tooMuchCode();
        nothingElseChanges();
        CHECKS.finish();
    }

    private static void bothAnswer(int want, int... words) {
        SquareCode x = new SquareCode(7, 2);
        CHECKS.feedAll(x, words);
        String text = java.util.Arrays.toString(words);
        CHECKS.due("evalDirect of " + text, x.evalDirect(), want);
        CHECKS.due("compile of " + text, x.compile(), want);
    }

    private static boolean isWord(int word) {
        if (word < 0 || word >= 900) {
            return false;
        }
        return word < 4 || word >= 100 && word < 700 && word % 100 == 0 || word >= 700;
    }

    private static void everyWordAlone() {
        for (int word = -901; word <= 1100; word++) {
            int want = 3;
            if (isWord(word)) {
                want = word < 300 ? 0 : 4;
            }
            bothAnswer(want, word);
            if (isWord(word)) {
                want = word < 300 ? 5 : word >= 600 ? 0 : 4;
            }
            bothAnswer(want, 0, word);
        }
        for (int word : new int[] {Integer.MIN_VALUE, -100, 10000, Integer.MAX_VALUE}) {
            bothAnswer(3, 0, word);
        }
    }

    private static void theFirstFaultIsTold() {
        bothAnswer(4, 0, 300, 900);
        bothAnswer(3, 0, 900, 300);
        bothAnswer(3, 301);
        bothAnswer(4, 800);
        bothAnswer(4, 801, 4);
        bothAnswer(4, 0, 500, 0, 0);
        bothAnswer(3, 0, 0, 4);
        bothAnswer(0, 0, 1, 300);
        bothAnswer(4, 0, 1, 300, 400);
    }

    private static void theEnd() {
        bothAnswer(5);
        bothAnswer(5, 0, 0);
        bothAnswer(5, 0, 1, 2, 500);
        bothAnswer(5, 0, 1, 800);
        bothAnswer(0, 0, 1, 2, 500, 500);
        int[] all = new int[24];
        bothAnswer(5, all);
    }

    /** Each POWER 63 makes ten, each POWER 95 eleven. */
    private static void tooMuchCode() {
        SquareCode x = new SquareCode(7, 2);
        CHECKS.feedAll(x, 0, 863, 863, 863, 815, 806);
        CHECKS.due("40 instructions", x.compile(), 0);
        CHECKS.due("40 instructions", x.codeSize(), 40);
        CHECKS.due("run", x.run(40), 0);
        CHECKS.due("out", x.out(1, 1), 0);
        CHECKS.due("optimise", x.optimise(), 0);
        CHECKS.due("all 40 differ", x.codeSize(), 40);

        SquareCode y = new SquareCode(7, 2);
        CHECKS.feedAll(y, 0, 863, 863, 863, 815, 806, 600);
        CHECKS.due("41 instructions", y.compile(), 6);
        CHECKS.due("no code then", y.codeSize(), -1);
        CHECKS.due("evalDirect", y.evalDirect(), 0);
        CHECKS.feedAll(y, 0);
        CHECKS.due("another fault is told instead", y.compile(), 5);
        CHECKS.feedAll(y, 300, 300);
        CHECKS.due("another fault is told instead", y.compile(), 4);

        SquareCode w = new SquareCode(7, 2);
        CHECKS.feedAll(w, 0, 863, 863, 863, 815, 600, 600, 801, 801, 800);
        CHECKS.due("POWER 0 makes one, POWER 1 none", w.compile(), 0);
        CHECKS.due("40 instructions", w.codeSize(), 40);

        SquareCode v = new SquareCode(7, 2);
        CHECKS.feedAll(v, 0, 863, 863, 863, 815, 600, 600, 801, 800, 800);
        CHECKS.due("41 instructions", v.compile(), 6);

        SquareCode z = new SquareCode(7, 2);
        CHECKS.feedAll(z, 0);
        for (int k = 1; k < 24; k++) {
            CHECKS.feedAll(z, 895);
        }
        CHECKS.due("254 instructions", z.compile(), 6);
        CHECKS.due("evalDirect", z.evalDirect(), 0);
    }

    private static void nothingElseChanges() {
        SquareCode x = new SquareCode(7, 1);
        CHECKS.due("setInput", x.setInput(0, 0, 0, 3), 0);
        CHECKS.feedAll(x, 0);
        CHECKS.due("evalDirect", x.evalDirect(), 0);
        CHECKS.feedAll(x, 0, 702);
        CHECKS.due("compile", x.compile(), 5);
        CHECKS.due("evalDirect", x.evalDirect(), 5);
        CHECKS.due("the earlier outcome stays", x.outDirect(0, 0), 3);
        CHECKS.due("no code", x.codeSize(), -1);
        CHECKS.due("no code", x.run(1), 7);
        CHECKS.feedAll(x, 300);
        CHECKS.due("evalDirect", x.evalDirect(), 0);
        CHECKS.due("3 + 2 * 3", x.outDirect(0, 0), 2);
    }
}
