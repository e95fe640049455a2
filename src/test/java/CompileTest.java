/** Promise 4: compile, with the code that each word makes. */
public final class CompileTest {
    private static final Checks CHECKS = new Checks();

    public static void main(String[] args) {
        eachOperation();
        power();
        eachPowerIsRight();
        anew();
        anewTwice();
        rewinds();
        CHECKS.finish();
    }

    private static SquareCode compiled(int... words) {
        SquareCode x = new SquareCode(7, 2);
        CHECKS.feedAll(x, words);
        CHECKS.due("compile", x.compile(), 0);
        return x;
    }

    /** "each word makes one instruction, in order" */
    private static void eachOperation() {
        CHECKS.codeIs("PUSH 3", compiled(3), 3);
        CHECKS.codeIs("ONE", compiled(100), 10000);
        CHECKS.codeIs("NOUGHT", compiled(200), 20000);
        CHECKS.codeIs("ADD", compiled(2, 1, 300), 2, 1, 30001);
        CHECKS.codeIs("SUB", compiled(2, 1, 400), 2, 1, 40001);
        CHECKS.codeIs("MUL", compiled(2, 1, 500), 2, 1, 50001);
        CHECKS.codeIs("TURN", compiled(2, 600, 600), 2, 60000, 60100);
        CHECKS.codeIs("SCALE is not reduced", compiled(2, 799), 2, 70099);
        CHECKS.codeIs("SCALE 0", compiled(2, 600, 700), 2, 60000, 70100);
        CHECKS.codeIs("later on the right", compiled(0, 1, 2, 400, 500),
                0, 1, 2, 40102, 50003);
        CHECKS.codeIs("left first", compiled(0, 1, 400, 2, 3, 500, 300),
                0, 1, 40001, 2, 3, 50304, 30205);
    }

    /** "but POWER: with x = 0 it makes ONE; with x = 1 nothing (the matrix stays); else .." */
    private static void power() {
        CHECKS.codeIs("POWER 0", compiled(1, 800), 1, 10000);
        CHECKS.codeIs("POWER 1", compiled(1, 801), 1);
        CHECKS.codeIs("POWER 1 keeps the matrix", compiled(1, 2, 801, 400), 1, 2, 40001);
        CHECKS.codeIs("POWER 0 of the earlier", compiled(1, 800, 2, 400), 1, 10000, 2, 40102);
        CHECKS.codeIs("POWER 1 of POWER 1", compiled(1, 801, 801), 1);
        CHECKS.codeIs("POWER 0 of POWER 0", compiled(1, 800, 800), 1, 10000, 10000);
        CHECKS.codeIs("POWER 2", compiled(1, 802), 1, 50000);
        CHECKS.codeIs("POWER 3", compiled(1, 803), 1, 50000, 50100);
        CHECKS.codeIs("POWER 4", compiled(1, 804), 1, 50000, 50101);
        CHECKS.codeIs("POWER 5", compiled(1, 805), 1, 50000, 50101, 50200);
        CHECKS.codeIs("POWER 6", compiled(1, 806), 1, 50000, 50100, 50202);
        CHECKS.codeIs("POWER 7 of the later", compiled(0, 1, 807, 300),
                0, 1, 50101, 50201, 50303, 50401, 30005);
        CHECKS.codeIs("POWER 99", compiled(1, 899),
                1, 50000, 50100, 50202, 50303, 50404, 50505, 50600, 50707, 50800);
    }

    /** The powers of 5 modulo 97 come again after 96 only, so an exponent tells itself. */
    private static void eachPowerIsRight() {
        long want = 1;
        for (int exponent = 0; exponent <= 99; exponent++) {
            SquareCode x = new SquareCode(97, 1);
            CHECKS.due("setInput", x.setInput(2, 0, 0, 5), 0);
            CHECKS.feedAll(x, 2, 800 + exponent);
            CHECKS.due("compile", x.compile(), 0);
            CHECKS.due("run", x.run(40), 0);
            CHECKS.due("5 to " + exponent, x.out(0, 0), want);
            CHECKS.due("evalDirect", x.evalDirect(), 0);
            CHECKS.due("5 to " + exponent + " directly", x.outDirect(0, 0), want);
            want = want * 5 % 97;
        }
    }

    /** "(also anew, then what was optimised is as it was)" */
    private static void anew() {
        SquareCode x = compiled(0, 0, 300, 200, 300);
        CHECKS.due("optimise", x.optimise(), 0);
        CHECKS.codeIs("optimised", x, 0, 30000);
        CHECKS.due("compile", x.compile(), 0);
        CHECKS.codeIs("as it was", x, 0, 0, 30001, 20000, 30203);
        CHECKS.due("run", x.run(5), 0);
        CHECKS.due("out", x.out(1, 1), 0);
    }

    private static void anewTwice() {
        SquareCode x = compiled(1, 1, 500);
        for (int round = 0; round < 3; round++) {
            CHECKS.due("compile", x.compile(), 0);
            CHECKS.codeIs("as it was", x, 1, 1, 50001);
            CHECKS.due("optimise", x.optimise(), 0);
            CHECKS.codeIs("optimised", x, 1, 50000);
        }
    }

    private static void rewinds() {
        SquareCode x = compiled(100, 702);
        CHECKS.due("run", x.run(2), 0);
        CHECKS.due("out", x.out(1, 1), 2);
        CHECKS.due("compile", x.compile(), 0);
        CHECKS.due("rewound", x.out(1, 1), -1);
        CHECKS.due("one of two", x.run(1), 8);
        CHECKS.due("compile", x.compile(), 0);
        CHECKS.due("one of two again", x.run(1), 8);
        CHECKS.due("two of two", x.run(1), 0);
        CHECKS.due("out", x.out(1, 1), 2);
    }
}
