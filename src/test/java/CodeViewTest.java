/** Promises 10, 11 and 12: codeAt, codeSize and products. */
public final class CodeViewTest {
    private static final Checks CHECKS = new Checks();

    public static void main(String[] args) {
        noCode();
        forms();
        noSuchInstruction();
        noneBehindBetterCode();
        productsCountMulAlone();
        highRegisters();
        CHECKS.finish();
    }

    private static void hasNone(String what, SquareCode x) {
        CHECKS.due(what + ": codeAt(0)", x.codeAt(0), -1);
        CHECKS.due(what + ": codeSize()", x.codeSize(), -1);
        CHECKS.due(what + ": products()", x.products(), -1);
    }

    /** "-1 if there is none", "-1 if there is no code" */
    private static void noCode() {
        SquareCode x = new SquareCode(7, 2);
        hasNone("new", x);
        CHECKS.feedAll(x, 0, 0);
        hasNone("fed", x);
        CHECKS.due("compile", x.compile(), 5);
        hasNone("fault", x);
        CHECKS.feedAll(x, 500);
        CHECKS.due("compile", x.compile(), 0);
        CHECKS.due("size", x.codeSize(), 3);
        CHECKS.due("products", x.products(), 1);
        x.reset();
        hasNone("reset", x);
    }

    /** "10000 * its operation + 100 * a + b (x for PUSH, 100 * a + x for SCALE, 0 for ..)" */
    private static void forms() {
        SquareCode x = new SquareCode(7, 2);
        CHECKS.feedAll(x, 3, 100, 200, 300, 400, 2, 500, 600, 799, 803, 0, 500);
        CHECKS.due("compile", x.compile(), 0);
        CHECKS.codeIs("all forms", x,
                3, 10000, 20000, 30102, 40003, 2, 50405, 60600, 70799, 50808, 50908, 0, 51011);
        CHECKS.due("products", x.products(), 4);
        CHECKS.due("run", x.run(2), 8);
        CHECKS.due("size while running", x.codeSize(), 13);
        CHECKS.due("optimise", x.optimise(), 0);
        CHECKS.codeIs("optimised", x,
                3, 10000, 40001, 2, 50203, 60400, 50505, 50605, 0, 50708);
        CHECKS.due("products", x.products(), 4);
    }

    private static final int[] OUTSIDE = {-1, -2, 39, 40, 41, 100,
        Integer.MIN_VALUE, Integer.MAX_VALUE};

    /** codeAt: "-1 if there is none" */
    private static void noSuchInstruction() {
        SquareCode x = new SquareCode(7, 2);
        for (int i : OUTSIDE) {
            CHECKS.due("no code, codeAt(" + i + ")", x.codeAt(i), -1);
        }
        CHECKS.feedAll(x, 3, 2, 500);
        CHECKS.due("compile", x.compile(), 0);
        for (int i : OUTSIDE) {
            CHECKS.due("codeAt(" + i + ")", x.codeAt(i), -1);
        }
        CHECKS.due("the first", x.codeAt(0), 3);
        CHECKS.due("the last", x.codeAt(2), 50001);
        CHECKS.due("behind the last", x.codeAt(3), -1);
    }

    private static void noneBehindBetterCode() {
        SquareCode x = new SquareCode(7, 2);
        CHECKS.feedAll(x, 3, 2, 500, 1, 400, 200, 500);
        CHECKS.due("compile", x.compile(), 0);
        CHECKS.due("optimise", x.optimise(), 0);
        CHECKS.due("the only one", x.codeAt(0), 20000);
        for (int i = 1; i < 8; i++) {
            CHECKS.due("codeAt(" + i + ")", x.codeAt(i), -1);
        }
        CHECKS.due("size", x.codeSize(), 1);
        CHECKS.due("products", x.products(), 0);
    }

    /** products: "How many of them are MUL" */
    private static void productsCountMulAlone() {
        SquareCode x = new SquareCode(7, 2);
        CHECKS.feedAll(x, 0, 1, 300, 2, 400, 600, 705, 100, 300, 200, 300);
        CHECKS.due("compile", x.compile(), 0);
        CHECKS.due("none is MUL", x.products(), 0);
        SquareCode y = new SquareCode(7, 2);
        CHECKS.feedAll(y, 0, 863, 863, 863, 863);
        CHECKS.due("compile", y.compile(), 6);
        CHECKS.due("too much code is no code", y.products(), -1);
        CHECKS.due("too much code is no code", y.codeSize(), -1);
    }

    private static void highRegisters() {
        SquareCode x = new SquareCode(97, 2);
        CHECKS.feedAll(x, 0, 863, 863, 863, 808, 702, 1, 300, 799, 600);
        CHECKS.due("compile", x.compile(), 0);
        CHECKS.due("size", x.codeSize(), 39);
        CHECKS.due("MUL 30 30", x.codeAt(31), 53030);
        CHECKS.due("SCALE", x.codeAt(34), 73302);
        CHECKS.due("ADD", x.codeAt(36), 33435);
        CHECKS.due("SCALE 99", x.codeAt(37), 73699);
        CHECKS.due("TURN", x.codeAt(38), 63700);
        CHECKS.due("products", x.products(), 33);
        CHECKS.due("optimise", x.optimise(), 0);
        CHECKS.due("SCALE 2", x.codeAt(37), 73602);
    }
}
