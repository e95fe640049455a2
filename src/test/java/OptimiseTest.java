/** Promise 5: optimise, rule by rule. */
public final class OptimiseTest {
    private static final Checks CHECKS = new Checks();

    public static void main(String[] args) {
        refusedWithoutCode();
        add();
        sub();
        mul();
        turn();
        scale();
        scaleOfScale();
        whichHoldsFirst();
        valuesNotNumbersAreLookedAt();
        sameValues();
        onlyWhatIsNeeded();
        orderOfTheNewCode();
        noughtWhereARuleNamesIt();
        twice();
        nothingIsKeptFromBefore();
        rewinds();
        CHECKS.finish();
    }

    /** Optimises what the words make, modulo 13, and looks at the new code. */
    private static void becomes(String what, int[] words, int... instructions) {
        becomesModulo(13, what, words, instructions);
    }

    private static void becomesModulo(int p, String what, int[] words, int... instructions) {
        SquareCode x = new SquareCode(p, 2);
        CHECKS.feedAll(x, words);
        CHECKS.due("compile", x.compile(), 0);
        CHECKS.due("optimise", x.optimise(), 0);
        CHECKS.codeIs(what, x, instructions);
        CHECKS.due("optimise", x.optimise(), 0);
        CHECKS.codeIs(what + " once more", x, instructions);
    }

    private static int[] words(int... words) {
        return words;
    }

    /** "7, refused, if there is none" */
    private static void refusedWithoutCode() {
        SquareCode x = new SquareCode(7, 2);
        CHECKS.due("no words", x.optimise(), 7);
        CHECKS.feedAll(x, 0);
        CHECKS.due("not compiled", x.optimise(), 7);
        CHECKS.due("still no code", x.codeSize(), -1);
        CHECKS.feedAll(x, 801);
        CHECKS.due("compile", x.compile(), 0);
        CHECKS.due("compiled", x.optimise(), 0);
        x.reset();
        CHECKS.due("reset", x.optimise(), 7);
    }

    /** "ADD: v if w is NOUGHT's, w if v is; else the new value ADD of both, .." */
    private static void add() {
        becomes("v + NOUGHT", words(1, 200, 300), 1);
        becomes("NOUGHT + w", words(200, 1, 300), 1);
        becomes("NOUGHT + NOUGHT", words(200, 200, 300), 20000);
        becomes("v + w", words(1, 0, 300), 1, 0, 30001);
        becomes("v + v", words(1, 1, 300), 1, 30000);
        becomes("the earlier value on the left", words(0, 1, 0, 300, 500), 0, 1, 30001, 50002);
        becomes("v + w and w + v", words(0, 1, 300, 1, 0, 300, 500), 0, 1, 30001, 50202);
        becomes("v + ONE", words(1, 100, 300), 1, 10000, 30001);
    }

    /** "SUB: v if w is NOUGHT's; NOUGHT's if v is w; else SUB v w." */
    private static void sub() {
        becomes("v - NOUGHT", words(1, 200, 400), 1);
        becomes("v - v", words(1, 1, 400), 20000);
        becomes("NOUGHT - NOUGHT", words(200, 200, 400), 20000);
        becomes("NOUGHT - w", words(200, 1, 400), 20000, 1, 40001);
        becomes("v - w", words(0, 1, 400), 0, 1, 40001);
        becomes("v - w and w - v", words(0, 1, 400, 1, 0, 400, 500),
                0, 1, 40001, 40100, 50203);
    }

    /** "MUL: NOUGHT's, if v or w is; v if w is ONE's, w if v is; else MUL v w." */
    private static void mul() {
        becomes("NOUGHT * w", words(200, 1, 500), 20000);
        becomes("v * NOUGHT", words(1, 200, 500), 20000);
        becomes("NOUGHT * ONE", words(200, 100, 500), 20000);
        becomes("ONE * NOUGHT", words(100, 200, 500), 20000);
        becomes("v * ONE", words(1, 100, 500), 1);
        becomes("ONE * w", words(100, 1, 500), 1);
        becomes("ONE * ONE", words(100, 899), 10000);
        becomes("v * w", words(0, 1, 500), 0, 1, 50001);
        becomes("v * w and w * v", words(0, 1, 500, 1, 0, 500, 300),
                0, 1, 50001, 50100, 30203);
    }

    /** "TURN: v, if that is ONE's or NOUGHT's; the value of which v is the TURN; else TURN v." */
    private static void turn() {
        becomes("TURN ONE", words(100, 600), 10000);
        becomes("TURN NOUGHT", words(200, 600), 20000);
        becomes("TURN v", words(1, 600), 1, 60000);
        becomes("TURN TURN v", words(1, 600, 600), 1);
        becomes("TURN TURN of the later", words(0, 1, 600, 600, 400), 0, 1, 40001);
        becomes("TURN three times", words(1, 600, 600, 600), 1, 60000);
        becomes("TURN of a sum stays", words(0, 1, 300, 600), 0, 1, 30001, 60200);
        becomes("TURN v * v", words(1, 600, 1, 500), 1, 60000, 50100);
    }

    /** "SCALE: with x mod P: NOUGHT's, if x is 0, or v is NOUGHT's; v, if x is 1; .." */
    private static void scale() {
        becomes("SCALE 0", words(1, 700), 20000);
        becomes("SCALE 13", words(1, 713), 20000);
        becomes("SCALE 1", words(1, 701), 1);
        becomes("SCALE 14", words(1, 714), 1);
        becomes("SCALE 12", words(1, 712), 1, 70012);
        becomes("SCALE 99", words(1, 799), 1, 70008);
        becomes("SCALE NOUGHT", words(200, 705), 20000);
        becomes("SCALE 0 of NOUGHT", words(200, 700), 20000);
        becomes("SCALE ONE", words(100, 705), 10000, 70005);
        becomesModulo(97, "SCALE 99 modulo 97", words(1, 799), 1, 70002);
        becomesModulo(97, "SCALE 96 modulo 97", words(1, 796), 1, 70096);
        becomesModulo(2, "SCALE 3 modulo 2", words(1, 703), 1);
        becomesModulo(2, "SCALE 98 modulo 2", words(1, 798), 20000);
    }

    /** "if v is SCALE y of u: as SCALE of y * x mod P of u; else SCALE x v" */
    private static void scaleOfScale() {
        becomes("5 * 3", words(1, 703, 705), 1, 70002);
        becomes("5 * 8 is 1", words(1, 708, 705), 1);
        becomes("1 * 5", words(1, 705, 701), 1, 70005);
        becomes("0 * 5", words(1, 705, 700), 20000);
        becomes("three", words(1, 702, 702, 702), 1, 70008);
        becomes("through a sum it stays", words(0, 702, 1, 300, 703),
                0, 70002, 1, 30102, 70303);
        becomes("not on a TURN", words(1, 702, 600, 703), 1, 70002, 60100, 70203);
        becomes("like another", words(1, 706, 1, 702, 703, 400), 20000);
        becomesModulo(12, "3 * 4 is 0 modulo 12", words(1, 703, 704), 20000);
        becomesModulo(12, "3 * 6 modulo 12", words(1, 703, 706), 1, 70006);
    }

    /** "by the first that holds": sources in which two rules of an operation hold at once. */
    private static void whichHoldsFirst() {
        becomes("ADD: both are NOUGHT's", words(1, 1, 400, 200, 300, 2, 400),
                20000, 2, 40001);
        becomes("SUB: w is NOUGHT's and v is w", words(200, 200, 400, 1, 400), 20000, 1, 40001);
        becomes("MUL: v is NOUGHT's, w is ONE's", words(200, 100, 500, 1, 400),
                20000, 1, 40001);
        becomes("MUL: v is ONE's, w is NOUGHT's", words(100, 200, 500, 1, 400),
                20000, 1, 40001);
        becomes("MUL: both are NOUGHT's", words(200, 802), 20000);
        becomes("MUL: both are ONE's", words(100, 802, 1, 300), 10000, 1, 30001);
        becomes("SCALE: x is 0, v is NOUGHT's", words(200, 700, 1, 400), 20000, 1, 40001);
        becomes("SCALE: x is 1, v is NOUGHT's", words(200, 701, 1, 400), 20000, 1, 40001);
        becomes("SCALE: x is 0, v is a SCALE", words(1, 705, 713), 20000);
        becomes("SCALE: x is 1, v is a SCALE", words(1, 705, 714), 1, 70005);
    }

    /** An input of 0 everywhere is not NOUGHT's, nor is a product that comes to ONE ONE's. */
    private static void valuesNotNumbersAreLookedAt() {
        becomes("an input at 0 added", words(1, 0, 300), 1, 0, 30001);
        becomes("an input at 0 multiplied", words(1, 0, 500), 1, 0, 50001);
        becomes("like inputs subtracted", words(1, 0, 400), 1, 0, 40001);
        becomes("an input at 0 turned", words(1, 600), 1, 60000);
        becomes("ONE less ONE scaled by 2", words(100, 702, 100, 400, 1, 500),
                10000, 70002, 40100, 1, 50203);
    }

    /** "A new value that is like one that is there already .. is that one." */
    private static void sameValues() {
        becomes("PUSH twice", words(2, 2, 500), 2, 50000);
        becomes("two inputs", words(2, 3, 500), 2, 3, 50001);
        becomes("ONE twice", words(100, 100, 300), 10000, 30000);
        becomes("SCALE by like numbers", words(1, 702, 1, 715, 500), 1, 70002, 50101);
        becomes("SCALE by others", words(1, 702, 1, 703, 500), 1, 70002, 70003, 50102);
        becomes("a power in a power", words(1, 803, 1, 802, 500), 1, 50000, 50100, 50201);
        becomes("a difference of like terms",
                words(0, 1, 300, 802, 1, 0, 300, 802, 400), 20000);
    }

    /** "an instruction for each value that the result's value is made of, directly or not" */
    private static void onlyWhatIsNeeded() {
        becomes("what is not used goes", words(0, 1, 500, 200, 500, 2, 300), 2);
        becomes("one value among unused ones", words(3, 0, 1, 500, 200, 500, 300, 600),
                3, 60000);
        becomes("POWER 0 drops the matrix", words(0, 803, 800, 1, 300), 10000, 1, 30001);
        becomes("what is used through others stays", words(0, 600, 703, 1, 500, 2, 400),
                0, 60000, 70103, 1, 50203, 2, 40405);
    }

    /** "in the order in which the values came" */
    private static void orderOfTheNewCode() {
        becomes("the first of like values counts", words(0, 1, 300, 1, 0, 400, 500),
                0, 1, 30001, 40100, 50203);
        becomes("a sum does not bring NOUGHT before itself",
                words(0, 1, 300, 200, 0, 1, 300, 400, 500),
                0, 1, 30001, 20000, 40302, 50204);
        becomes("a product does not bring ONE before itself",
                words(0, 1, 500, 100, 300, 600), 0, 1, 50001, 10000, 30203, 60400);
    }

    /** "NOUGHT's .. value come as such where a rule names them and no instruction has them yet" */
    private static void noughtWhereARuleNamesIt() {
        becomes("NOUGHT comes where v - v stands", words(0, 0, 400, 1, 400), 20000, 1, 40001);
        becomes("NOUGHT comes after what stood before",
                words(1, 0, 0, 400, 1, 400, 500), 1, 20000, 40100, 50002);
        becomes("NOUGHT comes where SCALE 0 stands",
                words(1, 0, 700, 1, 400, 500), 1, 20000, 40100, 50002);
        becomes("the NOUGHT that a rule brought is the word's too",
                words(1, 1, 400, 2, 400, 200, 3, 400, 500), 20000, 2, 40001, 3, 40003, 50204);
        becomes("the NOUGHT that a word brought is the rule's too",
                words(200, 2, 400, 1, 1, 400, 3, 400, 500), 20000, 2, 40001, 3, 40003, 50204);
    }

    private static void twice() {
        SquareCode x = new SquareCode(13, 2);
        CHECKS.feedAll(x, 0, 600, 600, 1, 300, 1, 0, 300, 400, 2, 705, 300);
        CHECKS.due("compile", x.compile(), 0);
        CHECKS.due("optimise", x.optimise(), 0);
        CHECKS.codeIs("once", x, 2, 70005);
        CHECKS.due("optimise", x.optimise(), 0);
        CHECKS.codeIs("twice", x, 2, 70005);
        CHECKS.due("the source is as it was", x.compile(), 0);
        CHECKS.due("the source is as it was", x.codeSize(), 12);
    }

    private static void nothingIsKeptFromBefore() {
        SquareCode x = new SquareCode(13, 2);
        CHECKS.feedAll(x, 0, 1, 300);
        CHECKS.due("compile", x.compile(), 0);
        CHECKS.due("optimise", x.optimise(), 0);
        CHECKS.codeIs("0 first", x, 0, 1, 30001);
        x.reset();
        CHECKS.feedAll(x, 1, 0, 300);
        CHECKS.due("compile", x.compile(), 0);
        CHECKS.due("optimise", x.optimise(), 0);
        CHECKS.codeIs("1 first", x, 1, 0, 30001);
    }

    private static void rewinds() {
        SquareCode x = new SquareCode(13, 1);
        CHECKS.due("setInput", x.setInput(0, 0, 0, 4), 0);
        CHECKS.feedAll(x, 0, 702, 0, 300);
        CHECKS.due("compile", x.compile(), 0);
        CHECKS.due("run", x.run(4), 0);
        CHECKS.due("out", x.out(0, 0), 12);
        CHECKS.due("optimise", x.optimise(), 0);
        CHECKS.due("rewound", x.out(0, 0), -1);
        CHECKS.due("two of three", x.run(2), 8);
        CHECKS.due("optimise", x.optimise(), 0);
        CHECKS.due("two of three again", x.run(2), 8);
        CHECKS.due("three of three", x.run(1), 0);
        CHECKS.due("out", x.out(0, 0), 12);
    }
}
