/** All promises: long runs of calls, each answer held against the plain model's. */
public final class ModelTest {
    private static final int RUNS = 4000;
    private static final int CALLS = 512;
    private static final Checks CHECKS = new Checks();

    private final Dice dice;
    private final SquareCode x;
    private final Model model;
    private final String name;
    private final boolean isWild;
    private int calls = 0;

    private ModelTest(int seed) {
        dice = new Dice(seed);
        int p = dice.below(4) == 0 ? dice.below(100) : 2 + dice.below(12);
        int n = dice.below(20) == 0 ? dice.below(7) - 1 : 1 + dice.below(4);
        x = new SquareCode(p, n);
        model = new Model(p, n);
        name = "run " + seed + " (" + p + ", " + n + "): ";
        isWild = dice.below(8) == 0;
    }

    public static void main(String[] args) {
        for (int seed = 1; seed <= RUNS; seed++) {
            new ModelTest(seed).play();
        }
        CHECKS.finish();
    }

    /** The same numbers every time, so that what fails once fails again. */
    private static final class Dice {
        private long state;

        Dice(long seed) {
            state = seed * 0x9E3779B97F4A7C15L;
        }

        int below(int bound) {
            state = state * 6364136223846793005L + 1442695040888963407L;
            return (int) Long.remainderUnsigned(state >>> 33, bound);
        }
    }

    private void play() {
        while (calls < CALLS) {
            setSome();
            if (isWild) {
                feedWild();
            } else {
                feedSource();
            }
            useIt();
        }
    }

    /** What calls after the 512th answer is free, so it is not looked at. */
    private void due(String call, int got, int want) {
        calls++;
        if (calls <= CALLS) {
            CHECKS.due(name + call, got, want);
        }
    }

    private void reset() {
        x.reset();
        model.reset();
        calls++;
    }

    private void feed(int word) {
        due("feed(" + word + ")", x.feed(word), model.feed(word));
    }

    private void setSome() {
        for (int k = dice.below(20); k > 0; k--) {
            int m = dice.below(30) == 0 ? dice.below(9) - 2 : dice.below(4);
            int i = dice.below(6) - (dice.below(9) == 0 ? 1 : 0);
            int j = dice.below(5) - (dice.below(9) == 0 ? 1 : 0);
            int v = dice.below(400) - 200;
            due("setInput", x.setInput(m, i, j, v), model.setInput(m, i, j, v));
        }
    }

    private void feedWild() {
        for (int k = dice.below(27); k > 0; k--) {
            feed(dice.below(3) == 0 ? dice.below(1100) - 60 : 100 * dice.below(9));
        }
    }

    /** Mostly a source without fault, of few kinds of matrices, so that the laws come to bear. */
    private void feedSource() {
        int kinds = 1 + dice.below(4);
        int length = 1 + dice.below(24);
        int there = 0;
        for (int k = 0; k < length || there > 1 && k < 24; k++) {
            int word = nextWord(there, kinds, there >= 24 - k);
            feed(word);
            there += word < 300 ? 1 : word < 600 ? -1 : 0;
        }
    }

    private int nextWord(int there, int kinds, boolean isEnding) {
        int choice = dice.below(12);
        if (there == 0 || there == 1 && choice < 7 || !isEnding && choice < 4) {
            int leaf = dice.below(7);
            return leaf == 0 ? 100 : leaf == 1 ? 200 : dice.below(kinds);
        }
        if (there >= 2 && (isEnding || choice < 8)) {
            return 300 + 100 * dice.below(3);
        }
        switch (choice % 4) {
            case 0: return 800 + dice.below(dice.below(3) == 0 ? 100 : 8);
            case 1: return 700 + dice.below(dice.below(3) == 0 ? 100 : 15);
            default: return 600;
        }
    }

    private void useIt() {
        for (int k = dice.below(30); k > 0; k--) {
            useOnce(dice.below(14));
        }
        lookAtAll();
        due("compile()", x.compile(), model.compile());
        lookAtAll();
        due("optimise()", x.optimise(), model.optimise());
        due("run(40)", x.run(40), model.run(40));
        due("evalDirect()", x.evalDirect(), model.evalDirect());
        lookAtAll();
        if (dice.below(5) != 0) {
            reset();
        }
    }

    private void useOnce(int choice) {
        int fuel = dice.below(14) - 2;
        switch (choice) {
            case 0: due("compile()", x.compile(), model.compile()); break;
            case 1: due("optimise()", x.optimise(), model.optimise()); break;
            case 2: due("evalDirect()", x.evalDirect(), model.evalDirect()); break;
            case 3: setSome(); break;
            case 4: feed(100 * dice.below(9)); break;
            case 5: case 6: case 7: due("run(" + fuel + ")", x.run(fuel), model.run(fuel)); break;
            case 8: due("run(40)", x.run(40), model.run(40)); break;
            default: lookAtSome(); break;
        }
    }

    private void lookAtSome() {
        int i = dice.below(6) - 1;
        int j = dice.below(6) - 1;
        due("out", x.out(i, j), model.out(i, j));
        due("outDirect", x.outDirect(i, j), model.outDirect(i, j));
        due("codeSize()", x.codeSize(), model.codeSize());
        due("products()", x.products(), model.products());
    }

    private void lookAtAll() {
        for (int k = -1; k <= 40; k++) {
            due("codeAt(" + k + ")", x.codeAt(k), model.codeAt(k));
        }
        for (int i = 0; i < 4; i++) {
            int j = dice.below(4);
            due("out", x.out(i, j), model.out(i, j));
            due("outDirect", x.outDirect(i, j), model.outDirect(i, j));
        }
        due("codeSize()", x.codeSize(), model.codeSize());
        due("products()", x.products(), model.products());
    }
}
