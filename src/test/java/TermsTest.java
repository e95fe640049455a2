import java.util.Arrays;

/** 'Terms': the edges of the matrices and their numbers, POWER 0 and 1, and what rewinds. */
public final class TermsTest {
    private static final Checks CHECKS = new Checks();

    public static void main(String[] args) {
        leastAndMostSide();
        numbersWrapAtTheMostModulus();
        numbersWrapAtTheLeastModulus();
        inputsAtFirst();
        sourceAtItsMost();
        laterOnTheRight();
        powerNought();
        powerOne();
        powerHighest();
        settingAnInputRewinds();
        compilingRewinds();
        optimisingRewinds();
        nothingElseRewinds();
        CHECKS.finish();
    }

    /** Directly, by the code and by the optimised code all must come to the same. */
    private static void comesTo(String what, SquareCode x, int[][] want) {
        CHECKS.due(what + ": evalDirect", x.evalDirect(), 0);
        CHECKS.outDirectIs(what, x, want);
        CHECKS.due(what + ": compile", x.compile(), 0);
        CHECKS.due(what + ": run", x.run(40), 0);
        CHECKS.outIs(what + " by code", x, want);
        CHECKS.due(what + ": optimise", x.optimise(), 0);
        CHECKS.due(what + ": run", x.run(40), 0);
        CHECKS.outIs(what + " by better code", x, want);
    }

    private static int[][] filled(int n, int number) {
        int[][] rows = new int[n][n];
        for (int[] row : rows) {
            Arrays.fill(row, number);
        }
        return rows;
    }

    private static int[][] identity(int n) {
        int[][] rows = new int[n][n];
        for (int i = 0; i < n; i++) {
            rows[i][i] = 1;
        }
        return rows;
    }

    /** Input 0 has the number given everywhere. */
    private static void fromFilled(int p, int n, int number, int want, int... words) {
        SquareCode x = new SquareCode(p, n);
        CHECKS.setAll(x, 0, filled(n, number));
        CHECKS.feedAll(x, words);
        comesTo("modulo " + p + ", side " + n + ", last word " + words[words.length - 1], x,
                filled(n, want));
    }

    /** "MATRICES are N by N, N being 1 .. 4" */
    private static void leastAndMostSide() {
        int[][] four = {{1, 2, 3, 4}, {5, 6, 7, 8}, {9, 10, 11, 12}, {13, 14, 15, 16}};
        SquareCode turned = new SquareCode(97, 4);
        CHECKS.setAll(turned, 0, four);
        CHECKS.feedAll(turned, 0, 600);
        comesTo("TURN of side 4", turned, new int[][] {
            {1, 5, 9, 13}, {2, 6, 10, 14}, {3, 7, 11, 15}, {4, 8, 12, 16}});
        SquareCode squared = new SquareCode(97, 4);
        CHECKS.setAll(squared, 0, four);
        CHECKS.feedAll(squared, 0, 802);
        comesTo("square of side 4", squared, new int[][] {
            {90, 3, 13, 23}, {8, 34, 60, 86}, {23, 65, 10, 52}, {38, 96, 57, 18}});
        fromFilled(97, 1, 10, 10, 0, 600);
        fromFilled(97, 1, 10, 3, 0, 802);
    }

    /** "of numbers 0 .. P - 1, P being 2 .. 97; all is reckoned modulo P" */
    private static void numbersWrapAtTheMostModulus() {
        fromFilled(97, 4, 96, 95, 0, 0, 300);
        fromFilled(97, 4, 96, 1, 200, 0, 400);
        fromFilled(97, 4, 1, 96, 200, 0, 400);
        fromFilled(97, 4, 96, 4, 0, 0, 500);
        fromFilled(97, 4, 96, 95, 0, 799);
        fromFilled(97, 4, 96, 1, 0, 796);
        fromFilled(97, 4, 96, 0, 0, 797);
        fromFilled(97, 4, 96, 81, 0, 899);
    }

    private static void numbersWrapAtTheLeastModulus() {
        fromFilled(2, 4, 1, 0, 0, 0, 300);
        fromFilled(2, 4, 1, 1, 200, 0, 400);
        fromFilled(2, 4, 1, 0, 0, 0, 500);
        fromFilled(2, 3, 1, 1, 0, 0, 500);
        fromFilled(2, 3, 1, 1, 0, 799);
        fromFilled(2, 3, 1, 0, 0, 798);
        fromFilled(2, 3, 1, 1, 0, 899);
    }

    /** "There are four INPUTS 0 .. 3, at first with 0 everywhere." */
    private static void inputsAtFirst() {
        for (int n = 1; n <= 4; n++) {
            for (int m = 0; m < 4; m++) {
                SquareCode x = new SquareCode(97, n);
                CHECKS.feedAll(x, m);
                comesTo("input " + m, x, new int[n][n]);
            }
        }
    }

    /** "The SOURCE is at most 24 WORDS", with twelve matrices there at once at the most. */
    private static void sourceAtItsMost() {
        SquareCode x = new SquareCode(97, 4);
        CHECKS.setAll(x, 0, filled(4, 8));
        for (int k = 0; k < 12; k++) {
            CHECKS.feedAll(x, 0);
        }
        for (int k = 0; k < 11; k++) {
            CHECKS.feedAll(x, 300);
        }
        CHECKS.feedAll(x, 600);
        CHECKS.due("full", x.feed(600), 1);
        comesTo("12 * 8", x, filled(4, 96));
    }

    /** "of the two matrices that came last, the later one on the right" */
    private static void laterOnTheRight() {
        leftAndRight("MUL", 500, new int[][] {{0, 6}, {6, 6}});
        leftAndRight("SUB", 400, new int[][] {{5, 6}, {4, 5}});
        leftAndRight("ADD", 300, new int[][] {{0, 6}, {6, 0}});
    }

    /** The 5 below the two are added in the end, so they must not have been touched. */
    private static void leftAndRight(String what, int word, int[][] want) {
        SquareCode x = new SquareCode(7, 2);
        CHECKS.setAll(x, 0, new int[][] {{1, 1}, {0, 1}});
        CHECKS.setAll(x, 1, new int[][] {{1, 0}, {1, 1}});
        CHECKS.setAll(x, 2, filled(2, 5));
        CHECKS.feedAll(x, 2, 0, 1, word, 300);
        comesTo(what, x, want);
    }

    /** "for x = 0 the identity." */
    private static void powerNought() {
        for (int n = 1; n <= 4; n++) {
            for (int word : new int[] {0, 100, 200}) {
                SquareCode x = new SquareCode(2, n);
                CHECKS.setAll(x, 0, filled(n, 1));
                CHECKS.feedAll(x, word, 800);
                comesTo("POWER 0 of " + word, x, identity(n));
            }
        }
        SquareCode y = new SquareCode(97, 2);
        CHECKS.setAll(y, 0, filled(2, 9));
        CHECKS.feedAll(y, 0, 0, 800, 300);
        comesTo("POWER 0 takes the matrix away", y, new int[][] {{10, 9}, {9, 10}});
    }

    private static void powerOne() {
        int[][] a = {{1, 2}, {3, 4}};
        SquareCode x = new SquareCode(97, 2);
        CHECKS.setAll(x, 0, a);
        CHECKS.feedAll(x, 0, 801, 801);
        comesTo("POWER 1", x, a);
        CHECKS.due("it makes no instruction", x.compile(), 0);
        CHECKS.codeIs("it makes no instruction", x, 0);
    }

    /** "multiplied x times with itself": the powers of 5 come again after 96 only. */
    private static void powerHighest() {
        SquareCode x = new SquareCode(97, 2);
        CHECKS.setAll(x, 0, new int[][] {{1, 1}, {0, 1}});
        CHECKS.feedAll(x, 0, 899);
        comesTo("99 steps", x, new int[][] {{1, 2}, {0, 1}});
        SquareCode y = new SquareCode(97, 2);
        CHECKS.setAll(y, 0, new int[][] {{1, 1}, {0, 1}});
        CHECKS.feedAll(y, 0, 896);
        comesTo("96 steps", y, new int[][] {{1, 96}, {0, 1}});
        fromFilled(97, 1, 5, 28, 0, 899);
    }

    /** Four instructions of which three are done. */
    private static SquareCode threeOfFourDone() {
        SquareCode x = new SquareCode(97, 1);
        CHECKS.feedAll(x, 100, 702, 703, 705);
        CHECKS.due("compile", x.compile(), 0);
        CHECKS.due("run", x.run(3), 8);
        return x;
    }

    private static void isRewound(String what, SquareCode x, int instructions) {
        CHECKS.due(what + ": out", x.out(0, 0), -1);
        CHECKS.due(what + ": one too few", x.run(instructions - 1), 8);
        CHECKS.due(what + ": just enough", x.run(1), 0);
        CHECKS.due(what + ": out", x.out(0, 0), 30);
    }

    /** "Setting an input .. REWIND: nothing is done yet." */
    private static void settingAnInputRewinds() {
        SquareCode x = threeOfFourDone();
        CHECKS.due("setInput", x.setInput(0, 0, 0, 1), 0);
        isRewound("in the middle", x, 4);
        CHECKS.due("setInput", x.setInput(0, 0, 0, 1), 0);
        isRewound("at the end", x, 4);
    }

    /** ".. compiling .." */
    private static void compilingRewinds() {
        SquareCode x = threeOfFourDone();
        CHECKS.due("compile", x.compile(), 0);
        isRewound("in the middle", x, 4);
        CHECKS.due("compile", x.compile(), 0);
        isRewound("at the end", x, 4);
    }

    /** ".. and optimising REWIND", also if nothing gets better. */
    private static void optimisingRewinds() {
        SquareCode x = threeOfFourDone();
        CHECKS.due("optimise", x.optimise(), 0);
        isRewound("in the middle", x, 2);
        CHECKS.due("optimise", x.optimise(), 0);
        isRewound("at the end", x, 2);
        CHECKS.due("optimise", x.optimise(), 0);
        CHECKS.due("one", x.run(1), 8);
        CHECKS.due("optimise", x.optimise(), 0);
        isRewound("in the middle of better code", x, 2);
    }

    private static void nothingElseRewinds() {
        SquareCode x = threeOfFourDone();
        CHECKS.due("evalDirect", x.evalDirect(), 0);
        CHECKS.due("outDirect", x.outDirect(0, 0), 30);
        CHECKS.due("feed", x.feed(600), 1);
        CHECKS.due("setInput refused", x.setInput(4, 0, 0, 1), 2);
        CHECKS.due("run without fuel", x.run(0), 8);
        CHECKS.due("run with less than none", x.run(-9), 8);
        CHECKS.due("out", x.out(0, 0), -1);
        CHECKS.due("codeAt", x.codeAt(3), 70205);
        CHECKS.due("codeSize", x.codeSize(), 4);
        CHECKS.due("products", x.products(), 0);
        CHECKS.due("only the fourth is to be done", x.run(1), 0);
        CHECKS.due("out", x.out(0, 0), 30);
        CHECKS.due("evalDirect", x.evalDirect(), 0);
        CHECKS.due("out after evalDirect", x.out(0, 0), 30);
    }
}
