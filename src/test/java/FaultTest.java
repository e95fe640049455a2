import java.util.Arrays;

/** 'Terms', and promises 4 and 7: the words, and the faults of the source. */
public final class FaultTest {
    private static final Checks CHECKS = new Checks();

    public static void main(String[] args) {
        numberOfPush();
        numberOfThoseWithoutOne();
        numberOfScaleAndPower();
        operationOutside();
        everyWordAlone();
        tooFewMatrices();
        noWordComesBeforeTooFew();
        theFirstFaultyWordIsTold();
        notJustOneAtTheEnd();
        aFaultyWordComesBeforeTheEnd();
        moreThanFortyInstructions();
        powersAtTheLimit();
        toldOnlyWithoutOtherFault();
        tooMuchEvenIfItCouldBeBetter();
        aFaultIsMended();
        CHECKS.finish();
    }

    private static void bothAnswer(int want, int... words) {
        SquareCode x = new SquareCode(7, 2);
        CHECKS.feedAll(x, words);
        String text = Arrays.toString(words);
        CHECKS.due("evalDirect of " + text, x.evalDirect(), want);
        CHECKS.due("compile of " + text, x.compile(), want);
    }

    /** "0 PUSH: the input x (0 .. 3)" */
    private static void numberOfPush() {
        bothAnswer(0, 0);
        bothAnswer(0, 3);
        bothAnswer(3, 4);
        bothAnswer(3, 99);
        bothAnswer(3, -1);
    }

    /** "(x is 0)" of ADD, SUB, MUL and TURN, "(x is 0 for ONE and NOUGHT.)" */
    private static void numberOfThoseWithoutOne() {
        for (int word = 100; word <= 600; word += 100) {
            int[] source = word < 300 ? new int[] {word}
                    : word < 600 ? new int[] {0, 0, word} : new int[] {0, word};
            bothAnswer(0, source);
            for (int x : new int[] {1, 2, 50, 99}) {
                source[source.length - 1] = word + x;
                bothAnswer(3, source);
            }
        }
    }

    /** "a number x, 0 .. 99" */
    private static void numberOfScaleAndPower() {
        bothAnswer(0, 0, 700);
        bothAnswer(0, 0, 799);
        bothAnswer(0, 0, 800);
        bothAnswer(0, 0, 899);
        bothAnswer(3, 0, 900);
    }

    /** "a word is 100 * an operation + a number x" */
    private static void operationOutside() {
        for (int word : new int[] {-1, -99, -100, -700, -800, Integer.MIN_VALUE}) {
            bothAnswer(3, 0, word);
        }
        for (int word : new int[] {900, 999, 1000, 1100, 10000, 70000, Integer.MAX_VALUE}) {
            bothAnswer(3, 0, word);
        }
    }

    private static boolean isWord(int word) {
        if (word < 0 || word >= 900) {
            return false;
        }
        return word < 4 || word >= 100 && word < 700 && word % 100 == 0 || word >= 700;
    }

    private static void everyWordAlone() {
        for (int word = -901; word <= 1100; word++) {
            int want = 3;
            if (isWord(word)) {
                want = word < 300 ? 0 : 4;
            }
            bothAnswer(want, word);
            if (isWord(word)) {
                want = word < 300 ? 5 : word >= 600 ? 0 : 4;
            }
            bothAnswer(want, 0, word);
        }
    }

    /** "or for which too few matrices are there (fault 4)" */
    private static void tooFewMatrices() {
        for (int word : new int[] {300, 400, 500}) {
            bothAnswer(4, word);
            bothAnswer(4, 0, word);
            bothAnswer(0, 0, 0, word);
            bothAnswer(4, 0, 0, word, word);
        }
        for (int word : new int[] {600, 700, 702, 800, 801, 802}) {
            bothAnswer(4, word);
            bothAnswer(0, 0, word);
        }
    }

    private static void noWordComesBeforeTooFew() {
        bothAnswer(3, 301);
        bothAnswer(3, 601);
        bothAnswer(3, 0, 501);
    }

    /** "FAULTY at the first word" */
    private static void theFirstFaultyWordIsTold() {
        bothAnswer(4, 0, 300, 900);
        bothAnswer(3, 0, 900, 300);
        bothAnswer(4, 801, 4);
        bothAnswer(3, 4, 801);
        bothAnswer(4, 0, 500, 0, 0);
        bothAnswer(4, 0, 1, 300, 400);
    }

    /** "or at its end, if not just one is there (fault 5)" */
    private static void notJustOneAtTheEnd() {
        bothAnswer(5);
        bothAnswer(5, 0, 0);
        bothAnswer(5, 0, 1, 2, 500);
        bothAnswer(5, 0, 1, 800);
        bothAnswer(5, 0, 1, 801);
        bothAnswer(0, 0, 1, 2, 500, 500);
        bothAnswer(5, new int[24]);
    }

    private static void aFaultyWordComesBeforeTheEnd() {
        bothAnswer(3, 0, 0, 4);
        bothAnswer(4, 600, 0, 0);
        bothAnswer(4, 0, 300, 0);
    }

    /** POWER 63 makes ten, so these make 37. */
    private static SquareCode with37And(int... words) {
        SquareCode x = new SquareCode(7, 2);
        CHECKS.feedAll(x, 0, 863, 863, 863, 815);
        CHECKS.feedAll(x, words);
        return x;
    }

    /** "More than 40 instructions: fault 6" */
    private static void moreThanFortyInstructions() {
        SquareCode x = with37And(806);
        CHECKS.due("40 instructions", x.compile(), 0);
        CHECKS.due("40 instructions", x.codeSize(), 40);
        CHECKS.due("run", x.run(40), 0);
        CHECKS.due("out", x.out(1, 1), 0);
        CHECKS.due("optimise", x.optimise(), 0);
        CHECKS.due("all 40 differ", x.codeSize(), 40);

        SquareCode y = with37And(806, 600);
        CHECKS.due("41 instructions", y.compile(), 6);
        CHECKS.due("no code then", y.codeSize(), -1);
        CHECKS.due("directly it goes", y.evalDirect(), 0);

        SquareCode z = new SquareCode(7, 2);
        CHECKS.feedAll(z, 0);
        for (int k = 1; k < 24; k++) {
            CHECKS.feedAll(z, 895);
        }
        CHECKS.due("254 instructions", z.compile(), 6);
        CHECKS.due("directly it goes", z.evalDirect(), 0);
    }

    /** "with x = 0 it makes ONE; with x = 1 nothing" */
    private static void powersAtTheLimit() {
        SquareCode x = with37And(600, 600, 801, 801, 800);
        CHECKS.due("POWER 0 makes one, POWER 1 none", x.compile(), 0);
        CHECKS.due("40 instructions", x.codeSize(), 40);
        SquareCode y = with37And(600, 600, 801, 800, 800);
        CHECKS.due("POWER 0 makes the 41st", y.compile(), 6);
        SquareCode z = with37And(600, 600, 600, 801);
        CHECKS.due("POWER 1 after the 40th", z.compile(), 0);
        CHECKS.due("POWER 1 after the 40th", z.codeSize(), 40);
    }

    /** "(told only if there is no other fault)" */
    private static void toldOnlyWithoutOtherFault() {
        CHECKS.due("6 alone", with37And(899).compile(), 6);
        CHECKS.due("3 after it", with37And(899, 900).compile(), 3);
        CHECKS.due("4 after it", with37And(899, 300).compile(), 4);
        CHECKS.due("5 after it", with37And(899, 0).compile(), 5);
    }

    private static void tooMuchEvenIfItCouldBeBetter() {
        SquareCode x = new SquareCode(7, 2);
        CHECKS.feedAll(x, 200, 899, 899, 899, 899, 899, 200, 500);
        CHECKS.due("only NOUGHT would be left", x.compile(), 6);
        CHECKS.due("no code", x.optimise(), 7);
    }

    private static void aFaultIsMended() {
        SquareCode x = new SquareCode(7, 1);
        CHECKS.due("setInput", x.setInput(0, 0, 0, 3), 0);
        CHECKS.feedAll(x, 0);
        CHECKS.due("evalDirect", x.evalDirect(), 0);
        CHECKS.feedAll(x, 0, 702);
        CHECKS.due("compile", x.compile(), 5);
        CHECKS.due("evalDirect", x.evalDirect(), 5);
        CHECKS.due("the earlier outcome stays", x.outDirect(0, 0), 3);
        CHECKS.due("no code", x.codeSize(), -1);
        CHECKS.due("no code", x.run(1), 7);
        CHECKS.feedAll(x, 300);
        CHECKS.due("evalDirect", x.evalDirect(), 0);
        CHECKS.due("3 + 2 * 3", x.outDirect(0, 0), 2);
        CHECKS.due("compile", x.compile(), 0);
        CHECKS.codeIs("all words", x, 0, 0, 70102, 30002);
    }
}
